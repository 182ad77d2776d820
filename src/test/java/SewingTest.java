/** Promises 6 to 8 and 25: spool, sew, unpick and threadFor. */
public final class SewingTest {
    public static void main(String[] args) {
        spool();
        sew();
        unpick();
        threadFor();
        Script.finish("SewingTest");
    }

    private static void spool() {
        Script.run("promise 6, what is above 999 is lost",
                "spool(1) = 101; spool(200) = 301; spool(200) = 501; spool(200) = 701; spool(200) = 901; spool(98) = 999",
                "spool(1) = 999; spool(200) = 999; account(2) = 999; undo() = 7; undo() = 6; undo() = 5; account(2) = 901",
                "spool(97) = 998; spool(200) = 999");
        Script.run("promise 6, numbers out of range",
                "spool(0) = refused 1 0; spool(201) = refused 1 0; spool(-1) = refused 1 0",
                "spool(2147483647) = refused 1 0; spool(-2147483648) = refused 1 0; account(2) = 100; account(11) = 0");
    }

    private static void sew() {
        Script.run("promise 7, by stations and folds, the first one with 5 more",
                "book(96, 3) = 0; gather(0, 1, 1, false) = 0; gather(0, 5, 2, false) = 1; gather(0, 13, 3, true) = 2",
                "sew(0) = 86; bookOf(0, 4) = 1; sew(0) = 74; sew(0) = 59; bookOf(0, 4) = 3; account(7) = 41",
                "sew(0) = refused 6 3; bookOf(0, 2) = 0");
        Script.run("promise 7, too little thread",
                "book(96, 5) = 0", Script.times(5, "gather(0, 1, 3, false)"),
                "sew(0) = 70; sew(0) = 45; sew(0) = 20; sew(0) = refused 7 5; account(2) = 20; account(7) = 80",
                "spool(4) = 24; sew(0) = refused 7 1; spool(1) = 25; sew(0) = 0; sew(0) = refused 7 25; bookOf(0, 4) = 4");
        Script.run("promise 7, refused for the book",
                "sew(0) = refused 3 0; book(4, 2) = 0; sew(1) = refused 3 1; sew(-1) = refused 3 -1; sew(0) = refused 6 0",
                "gather(0, 1, 1, false) = 0; sew(0) = 89; glue(0, 0) = 30; sew(0) = refused 4 1");
    }

    private static void unpick() {
        Script.run("promise 8, the thread is lost",
                "book(8, 2) = 0; gather(0, 1, 1, false) = 0; gather(0, 5, 1, false) = 1; sew(0) = 89; sew(0) = 83",
                "unpick(0) = 1; account(2) = 83; account(7) = 17; account(8) = 1; line(0) = 11; shown() = \"0: 1-4s 5-8\"",
                "sew(0) = 77; unpick(0) = 1; unpick(0) = 0; account(8) = 3; sew(0) = 66; account(7) = 34");
        Script.run("promise 8, refused",
                "unpick(0) = refused 3 0; book(8, 2) = 0; unpick(0) = refused 6 0; gather(0, 1, 1, false) = 0",
                "gather(0, 5, 1, false) = 1; unpick(0) = refused 6 2; sew(0) = 89; sew(0) = 83; glue(0, 2) = 15",
                "unpick(0) = refused 4 1; unpick(6) = refused 3 6; unpick(-1) = refused 3 -1");
    }

    private static void threadFor() {
        Script.run("promise 25, what is not sewn yet",
                "threadFor(0) = throws IndexOutOfBoundsException; book(96, 5) = 0; threadFor(0) = 0",
                "gather(0, 1, 3, false) = 0; threadFor(0) = 30; gather(0, 1, 1, true) = 1; gather(0, 1, 2, true) = 2",
                "threadFor(0) = 65; sew(0) = 70; threadFor(0) = 35; sew(0) = 55; threadFor(0) = 20; sew(0) = 35",
                "threadFor(0) = 0; unpick(0) = 2; threadFor(0) = 20; unpick(0) = 1; unpick(0) = 0; threadFor(0) = 65",
                "threadFor(-1) = throws IndexOutOfBoundsException; threadFor(1) = throws IndexOutOfBoundsException");
        Script.run("promise 25, a glued book needs none, and one that came loose all again",
                "book(4, 2) = 0; gather(0, 1, 1, false) = 0; sew(0) = 89; glue(0, 1) = 8; threadFor(0) = 0; pass(8) = 1",
                "threadFor(0) = 11");
    }
}
