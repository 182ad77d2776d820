/** Promises 1 to 5: a new object, book, gather, move and drop. */
public final class GatheringTest {
    public static void main(String[] args) {
        newObject();
        book();
        gather();
        gatherAtOtherStages();
        move();
        drop();
        Script.finish("GatheringTest");
    }

    private static void newObject() {
        Script.run("promise 1, nothing is there yet",
                "account(0) = 0; account(1) = 20; account(2) = 100; account(3) = 0; account(4) = 0; account(5) = 0",
                "account(6) = 0; account(7) = 0; account(8) = 0; account(9) = 0; account(10) = 0; account(11) = 0",
                "account(12) = 0; faultPosition() = -1; shown() = \"\"; reason(0) = throws NoSuchElementException",
                "bookOf(0, 0) = throws IndexOutOfBoundsException; ranked(0) = throws NoSuchElementException",
                "inPress(0, 0) = throws NoSuchElementException; inPress(1, 0) = throws NoSuchElementException",
                "meanSignatures() = throws ArithmeticException; undo() = throws IllegalStateException",
                "restore() = throws IllegalStateException; character(0) = throws IndexOutOfBoundsException; save() = 0");
    }

    private static void book() {
        Script.run("promise 2, the numbers of the books and how many there can be",
                "book(4, 2) = 0; book(96, 5) = 1; book(50, 3) = 2; book(5, 4) = 3; book(95, 2) = 4; book(6, 2) = 5",
                "book(6, 2) = refused 2 6; account(3) = 6; book(3, 2) = refused 1 0",
                "bookOf(1, 0) = 96; bookOf(1, 1) = 5; bookOf(1, 2) = 0; bookOf(1, 3) = 0; bookOf(1, 4) = 0",
                "bookOf(1, 5) = 0; bookOf(1, 6) = 0; bookOf(1, 7) = -1; bookOf(1, 8) = 0; bookOf(5, 0) = 6");
        Script.run("promise 2, numbers out of range",
                "book(3, 2) = refused 1 0; book(97, 2) = refused 1 0; book(4, 1) = refused 1 0; book(4, 6) = refused 1 0",
                "book(-2147483648, 2) = refused 1 0; book(2147483647, 2) = refused 1 0; book(4, -1) = refused 1 0",
                "book(4, 2147483647) = refused 1 0; book(0, 0) = refused 1 0; account(3) = 0; account(11) = 0");
        Script.run("promise 2, a book whose number was undone is new",
                "book(8, 2) = 0; gather(0, 1, 1, false) = 0; undo() = 1; undo() = 0; book(9, 3) = 0",
                "bookOf(0, 0) = 9; bookOf(0, 1) = 3; bookOf(0, 3) = 0");
    }

    private static void gather() {
        Script.run("promise 3, the places and the pages",
                "book(96, 2) = 0; gather(0, 1, 1, false) = 0; gather(0, 99, 3, true) = 1; gather(0, 50, 2, false) = 2",
                "bookOf(0, 3) = 3; bookOf(0, 5) = 28; account(6) = 3",
                "signatureOf(0, 1, 0) = 99; signatureOf(0, 1, 1) = 114; signatureOf(0, 1, 2) = 3; signatureOf(0, 1, 3) = 1");
        Script.run("promise 3, at most 12 signatures",
                "book(96, 2) = 0", Script.times(12, "gather(0, 1, 1, false)"), "gather(0, 1, 1, false) = refused 2 12",
                "gather(0, 0, 1, false) = refused 1 0; bookOf(0, 3) = 12");
        Script.run("promise 3, numbers out of range",
                "gather(0, 1, 1, false) = refused 3 0; book(4, 2) = 0; gather(1, 1, 1, false) = refused 3 1",
                "gather(-1, 1, 1, false) = refused 3 -1; gather(6, 0, 0, false) = refused 3 6",
                "gather(2147483647, 1, 1, false) = refused 3 2147483647",
                "gather(0, 0, 1, false) = refused 1 0; gather(0, 100, 1, false) = refused 1 0",
                "gather(0, 1, 0, false) = refused 1 0; gather(0, 1, 4, false) = refused 1 0",
                "gather(0, -2147483648, 1, false) = refused 1 0; gather(0, 1, 2147483647, true) = refused 1 0",
                "gather(0, 99, 1, true) = 0");
    }

    private static void gatherAtOtherStages() {
        Script.run("promise 3, sewn, glued, in a press, bound and delivered books",
                "book(4, 2) = 0; gather(0, 1, 1, false) = 0; sew(0) = 89; gather(0, 0, 1, false) = refused 5 1",
                "glue(0, 1) = 8; gather(0, 0, 1, false) = refused 4 1; press(0, 1) = 1",
                "gather(0, 1, 1, false) = refused 4 2; pass(8) = 0; lift(1) = 0; gather(0, 1, 1, false) = refused 4 3",
                "deliver(0) = 0; gather(0, 1, 1, false) = refused 4 4");
    }

    private static void move() {
        String three = "book(16, 2) = 0; gather(0, 1, 1, false) = 0; gather(0, 5, 1, true) = 1; gather(0, 9, 2, false) = 2";
        Script.run("promise 4, backwards, forwards and to the same place", three,
                "move(0, 2, 0) = 16; line(0) = 16; shown() = \"0: 9-16 1-4 5-8!\"",
                "move(0, 0, 2) = 4; line(0) = 16; shown() = \"0: 1-4 5-8! 9-16\"",
                "move(0, 0, 1) = 8; line(0) = 16; shown() = \"0: 5-8! 1-4 9-16\"",
                "move(0, 1, 2) = 16; line(0) = 16; shown() = \"0: 5-8! 9-16 1-4\"",
                "move(0, 1, 1) = 16; account(11) = 8; undo() = 7; line(0) = 16; shown() = \"0: 5-8! 9-16 1-4\"");
        Script.run("promise 4, among 12", Steps.TWELVE,
                "move(0, 0, 11) = 48; signatureOf(0, 11, 0) = 1; signatureOf(0, 0, 0) = 5; signatureOf(0, 10, 0) = 45",
                "move(0, 11, 0) = 0; move(0, 11, 11) = 0; move(0, 10, 11) = 8; move(0, 12, 0) = refused 3 12",
                "move(0, 0, 12) = refused 3 12");
        Script.run("promise 4, refused", three,
                "move(1, 0, 0) = refused 3 1; move(-1, 9, 9) = refused 3 -1; move(0, 3, 0) = refused 3 3",
                "move(0, 0, 3) = refused 3 3; move(0, -1, -2) = refused 3 -1; move(0, 0, -2) = refused 3 -2",
                "move(0, 7, 8) = refused 3 7; move(0, 2147483647, 0) = refused 3 2147483647",
                "sew(0) = 89; move(0, 0, 1) = refused 5 1; sew(0) = 83; move(0, 9, 9) = refused 5 2; unpick(0) = 1",
                "unpick(0) = 0; move(0, 0, 0) = 4; sew(0) = 72; sew(0) = 66; sew(0) = 58; glue(0, 0) = 30",
                "move(0, 9, 9) = refused 4 1");
    }

    private static void drop() {
        String three = "book(16, 2) = 0; gather(0, 1, 1, false) = 0; gather(0, 5, 1, true) = 1; gather(0, 9, 2, false) = 2";
        Script.run("promise 5, the later ones come nearer", three,
                "drop(0, 1) = 2; line(0) = 11; shown() = \"0: 1-4 9-16\"; signatureOf(0, 1, 4) = 4; bookOf(0, 5) = 12",
                "drop(0, 0) = 1; line(0) = 7; shown() = \"0: 9-16\"; drop(0, 0) = 0; drop(0, 0) = refused 3 0",
                "account(6) = 0; gather(0, 3, 1, false) = 0");
        Script.run("promise 5, the last one", three, "drop(0, 2) = 2; line(0) = 11; shown() = \"0: 1-4 5-8!\"");
        Script.run("promise 5, among 12", Steps.TWELVE,
                "drop(0, 0) = 11; signatureOf(0, 10, 0) = 45; signatureOf(0, 0, 0) = 5; gather(0, 50, 1, false) = 11",
                "drop(0, 11) = 11; drop(0, 11) = refused 3 11");
        Script.run("promise 5, refused", three,
                "drop(2, 0) = refused 3 2; drop(0, 3) = refused 3 3; drop(0, -1) = refused 3 -1",
                "drop(0, -2147483648) = refused 3 -2147483648; sew(0) = 89; drop(0, 3) = refused 5 1; sew(0) = 83",
                "sew(0) = 75; glue(0, 1) = 8; drop(0, 3) = refused 4 1; drop(-5, 3) = refused 3 -5");
    }
}
