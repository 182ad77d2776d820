/** The edges of sewing, glue, presses and slips: each sentence that names one, of the terms and promises 6 to 14. */
public final class WorkEdgesTest {
    // Four signatures of the dearest kind are sewn, and 20 thread are left; the next one needs 25.
    private static final String TWENTY_LEFT = "book(96, 5) = 0; " + Script.times(4, "gather(0, 1, 3, false)")
            + "sew(0) = 70; sew(0) = 45; sew(0) = 20; ";

    public static void main(String[] args) {
        spool();
        sew();
        unpick();
        looseOnly();
        glue();
        glueSets();
        press();
        lift();
        pass();
        slip();
        deliver();
        coins();
        Script.finish("WorkEdgesTest");
    }

    private static void spool() {
        Script.run("promise 6, 1 to 200: 0", "spool(0) = refused 1 0; account(2) = 100");
        Script.run("promise 6, 1 to 200: 1", "spool(1) = 101; account(2) = 101");
        Script.run("promise 6, 1 to 200: 200", "spool(200) = 300; account(2) = 300");
        Script.run("promise 6, 1 to 200: 201", "spool(201) = refused 1 0; account(2) = 100");
        Script.run("promise 6, far out of range",
                "spool(-1) = refused 1 0; spool(-2147483648) = refused 1 0; spool(2147483647) = refused 1 0",
                "account(2) = 100");
        Script.run("terms, 999 at most: 999 just so", Script.times(4, "spool(200)"), "spool(99) = 999; account(2) = 999");
        Script.run("terms, 999 at most: what would be above is lost",
                Script.times(4, "spool(200)"), "spool(100) = 999; account(2) = 999");
        Script.run("terms, 999 at most: a full spool",
                Script.times(5, "spool(200)"), "spool(1) = 999; spool(200) = 999; account(2) = 999");
        Script.run("terms, 999 at most: what is lost does not come back",
                Script.times(5, "spool(200)"), "book(4, 2) = 0; gather(0, 1, 1, false) = 0; sew(0) = 988");
    }

    private static void sew() {
        Script.run("terms, 2 and the fold for each station: 2 stations, fold 1",
                "book(4, 2) = 0; gather(0, 1, 1, false); gather(0, 1, 1, false); sew(0) = 89; sew(0) = 83");
        Script.run("terms, 2 and the fold for each station: 2 stations, fold 3",
                "book(4, 2) = 0; gather(0, 1, 3, false); gather(0, 1, 3, false); sew(0) = 85; sew(0) = 75");
        Script.run("terms, 2 and the fold for each station: 5 stations, fold 1",
                "book(4, 5) = 0; gather(0, 1, 1, false); gather(0, 1, 1, false); sew(0) = 80; sew(0) = 65");
        Script.run("terms, 2 and the fold for each station: 5 stations, fold 3",
                "book(4, 5) = 0; gather(0, 1, 3, false); gather(0, 1, 3, false); sew(0) = 70; sew(0) = 45");
        Script.run("terms, 5 more for the first signature: of each book",
                "book(4, 2) = 0; book(4, 2) = 1; gather(0, 1, 1, false); gather(1, 1, 1, false); sew(0) = 89; sew(1) = 78");
        Script.run("terms, 5 more for the first signature: each time that it is sewn",
                Steps.SEWN, "unpick(0) = 0; sew(0) = 78");
        Script.run("terms, 5 more for the first signature: not for the next one after unpicking",
                "book(4, 2) = 0; gather(0, 1, 1, false); gather(0, 1, 1, false)",
                "sew(0) = 89; sew(0) = 83; unpick(0) = 1; sew(0) = 77");
        Script.run("terms, 5 more for the first signature: by its place, not by when it was gathered",
                "book(4, 2) = 0; gather(0, 1, 3, false); gather(0, 1, 1, false)", "move(0, 0, 1); sew(0) = 89; sew(0) = 79");
        Script.run("terms, sewn by their places, the first one first",
                "book(8, 2) = 0; gather(0, 5, 1, false); gather(0, 1, 2, false)",
                "sew(0) = 89; line(0) = 11; shown() = \"0: 5-8s 1-8\"");
        Script.run("promise 7, just enough thread",
                TWENTY_LEFT, "spool(5) = 25; sew(0) = 0; account(2) = 0; account(7) = 105");
        Script.run("promise 7, one thread too little",
                TWENTY_LEFT, "spool(4) = 24; sew(0) = refused 7 1; account(2) = 24; bookOf(0, 4) = 3");
        Script.run("promise 7, no thread at all",
                TWENTY_LEFT, "spool(5) = 25; sew(0) = 0; gather(0, 1, 1, false) = refused 5 4; book(4, 2) = 1",
                "gather(1, 1, 1, false) = 0; sew(1) = refused 7 11");
        Script.run("promise 7, all are sewn", Steps.SEWN, "sew(0) = refused 6 1; account(2) = 89; account(7) = 11");
        Script.run("promise 7, all 12 are sewn",
                Steps.TWELVE, Script.times(11, "sew(0)"), "sew(0) = 23; sew(0) = refused 6 12");
        Script.run("details, a book without signatures cannot be sewn for the reason 6 with 0",
                "book(4, 2) = 0; sew(0) = refused 6 0");
        Script.run("promise 25, nothing is gathered", "book(4, 5) = 0; threadFor(0) = 0");
        Script.run("promise 25, nothing is sewn: the 5 more are in it",
                "book(4, 2) = 0; gather(0, 1, 1, false); threadFor(0) = 11; gather(0, 1, 3, false); threadFor(0) = 21");
        Script.run("promise 25, the first one is sewn: the 5 more are not in it",
                "book(4, 2) = 0; gather(0, 1, 1, false); gather(0, 1, 3, false); sew(0) = 89; threadFor(0) = 10");
        Script.run("promise 25, all are sewn", Steps.SEWN, "threadFor(0) = 0");
        Script.run("promise 25, the most there can be",
                "book(4, 5) = 0", Script.times(12, "gather(0, 1, 3, false)"), "threadFor(0) = 305");
        Script.run("promise 25, as much as sewing takes",
                Steps.TWELVE, "threadFor(0) = 77", Script.times(12, "sew(0)"), "account(7) = 77; threadFor(0) = 0");
    }

    private static void unpick() {
        Script.run("promise 8, the only sewing", Steps.SEWN, "unpick(0) = 0; bookOf(0, 4) = 0; account(8) = 1");
        Script.run("promise 8, none is sewn",
                "book(4, 2) = 0; gather(0, 1, 1, false) = 0; unpick(0) = refused 6 1; account(8) = 0");
        Script.run("promise 8, none is sewn any more", Steps.SEWN, "unpick(0) = 0; unpick(0) = refused 6 1; account(8) = 1");
        Script.run("promise 8, a book without signatures", "book(4, 2) = 0; unpick(0) = refused 6 0");
        Script.run("promise 8, none of 12 is sewn: how many the book has", Steps.TWELVE, "unpick(0) = refused 6 12");
        Script.run("promise 8, all 12, one by one, the latest first",
                Steps.TWELVE, Script.times(12, "sew(0)"), "unpick(0) = 11; unpick(0) = 10", Script.times(9, "unpick(0)"),
                "line(0); character(6) = s; unpick(0) = 0; unpick(0) = refused 6 12; account(8) = 12");
        Script.run("terms, the thread is lost", Steps.SEWN, "unpick(0) = 0; account(2) = 89; account(7) = 11");
        Script.run("promise 8, at other stages",
                Steps.SEWN, "glue(0, 0) = 30; unpick(0) = refused 4 1; press(0, 0) = 1; unpick(0) = refused 4 2",
                "pass(30) = 0; lift(0) = 0; unpick(0) = refused 4 3; deliver(0) = 0; unpick(0) = refused 4 4",
                "account(8) = 0");
    }

    private static void looseOnly() {
        Script.run("terms, as long as a signature is sewn: none can be gathered",
                Steps.SEWN, "gather(0, 5, 1, false) = refused 5 1; unpick(0) = 0; gather(0, 5, 1, false) = 1");
        Script.run("terms, as long as a signature is sewn: none can be moved, to the same place neither",
                Steps.SEWN, "move(0, 0, 0) = refused 5 1; unpick(0) = 0; move(0, 0, 0) = 0");
        Script.run("terms, as long as a signature is sewn: none can be dropped",
                Steps.SEWN, "drop(0, 0) = refused 5 1; unpick(0) = 0; drop(0, 0) = 0");
        Script.run("terms, as long as one of 12 is sewn: the others neither",
                Steps.TWELVE, "sew(0) = 89; drop(0, 11) = refused 5 1; move(0, 10, 11) = refused 5 1");
        Script.run("terms, as long as all 12 are sewn",
                Steps.TWELVE, Script.times(12, "sew(0)"),
                "drop(0, 11) = refused 5 12; gather(0, 1, 1, true) = refused 5 12");
        Script.run("terms, none of the book: another book can",
                Steps.SEWN, "book(4, 2) = 1; gather(1, 1, 1, false) = 0; move(1, 0, 0) = 0; drop(1, 0) = 0");
        Script.run("terms, a book that is gathered again can be changed",
                Steps.SEWN, "glue(0, 1) = 8; gather(0, 5, 1, false) = refused 4 1; pass(8) = 1; gather(0, 5, 1, false) = 1",
                "drop(0, 0) = 1");
    }

    private static void glue() {
        Script.run("terms, one of the glues 0 to 2: -1", Steps.SEWN, "glue(0, -1) = refused 3 -1; bookOf(0, 2) = 0");
        Script.run("terms, one of the glues 0 to 2: 3", Steps.SEWN, "glue(0, 3) = refused 3 3; bookOf(0, 2) = 0");
        Script.run("terms, one of the glues 0 to 2: far away",
                Steps.SEWN, "glue(0, 2147483647) = refused 3 2147483647; glue(0, -2147483648) = refused 3 -2147483648");
        Script.run("terms, all sewn, with one at least: none", "book(4, 2) = 0; glue(0, 0) = refused 9 0; bookOf(0, 7) = -1");
        Script.run("terms, all sewn, with one at least: one, not sewn",
                "book(4, 2) = 0; gather(0, 1, 1, false) = 0; glue(0, 0) = refused 8 0");
        Script.run("terms, all sewn, with one at least: one, sewn",
                Steps.SEWN, "glue(0, 0) = 30; bookOf(0, 2) = 1; bookOf(0, 7) = 0");
        Script.run("terms, all sewn, with one at least: 11 of 12",
                Steps.TWELVE, Script.times(11, "sew(0)"), "glue(0, 1) = refused 8 11; sew(0) = 23; glue(0, 1) = 8");
        Script.run("terms, all sewn, with one at least: unpicked again",
                Steps.SEWN, "unpick(0) = 0; glue(0, 1) = refused 8 0");
        Script.run("promise 9, a glued book is not glued again",
                Steps.SEWN, "glue(0, 1) = 8; pass(7) = 0; glue(0, 0) = refused 4 1; bookOf(0, 7) = 1; bookOf(0, 8) = 1");
    }

    private static void glueSets() {
        int[] minutes = {30, 8, 15};
        for (int glue = 0; glue < 3; glue++) {
            String glued = Steps.SEWN + "glue(0, " + glue + ") = " + minutes[glue] + "; bookOf(0, 8) = " + minutes[glue] + "; ";
            String before = "pass(" + (minutes[glue] - 1) + ") = 0; ";
            Script.run("terms, glue " + glue + " sets when its minutes have gone by: one before",
                    glued, before, "bookOf(0, 8) = 1; bookOf(0, 2) = 1; bookOf(0, 7) = " + glue);
            Script.run("terms, glue " + glue + " sets when its minutes have gone by: just then",
                    glued, "pass(" + minutes[glue] + ") = 1; bookOf(0, 8) = 0; bookOf(0, 2) = 0");
            Script.run("terms, glue " + glue + " sets when its minutes have gone by: in the last minute",
                    glued, before, "pass(1) = 1; bookOf(0, 2) = 0");
            Script.run("terms, glue " + glue + " in a press: it can be lifted just then",
                    glued, "press(0, 0) = 1", before, "lift(0) = refused 10 1; pass(1) = 0; lift(0) = 0");
            Script.run("terms, glue " + glue + " in a press since the last minute",
                    glued, before, "press(0, 0) = 1; pass(1) = 0; bookOf(0, 2) = 2; lift(0) = 0");
            Script.run("promise 15, glue " + glue + " needs no minutes less than 0",
                    glued, "press(0, 0) = 1; pass(60) = 0; bookOf(0, 8) = 0; bookOf(0, 7) = " + glue);
        }
        Script.run("terms, gathered again, unpicked as a whole",
                Steps.TWELVE, Script.times(12, "sew(0)"), "glue(0, 1) = 8; pass(8) = 1",
                "bookOf(0, 4) = 0; bookOf(0, 3) = 12; bookOf(0, 7) = -1; account(8) = 12; account(2) = 23; account(7) = 77",
                "sew(0) = 12");
        Script.run("terms, glued again, its minutes begin anew",
                Steps.SEWN,
                "glue(0, 1) = 8; pass(8) = 1; sew(0) = 78; glue(0, 2) = 15; bookOf(0, 8) = 15; pass(14) = 0; pass(1) = 1");
        Script.run("promise 15, no glue, no minutes",
                Steps.SEWN, "bookOf(0, 7) = -1; bookOf(0, 8) = 0; pass(60) = 0; bookOf(0, 8) = 0; bookOf(0, 4) = 1");
    }

    private static void press() {
        Script.run("terms, the presses 0 and 1: -1",
                Steps.SEWN, "glue(0, 1) = 8; press(0, -1) = refused 3 -1; bookOf(0, 2) = 1");
        Script.run("terms, the presses 0 and 1: 0",
                Steps.SEWN,
                "glue(0, 1) = 8; press(0, 0) = 1; inPress(0, 0) = 0; inPress(1, 0) = throws NoSuchElementException");
        Script.run("terms, the presses 0 and 1: 1",
                Steps.SEWN,
                "glue(0, 1) = 8; press(0, 1) = 1; inPress(1, 0) = 0; inPress(0, 0) = throws NoSuchElementException");
        Script.run("terms, the presses 0 and 1: 2",
                Steps.SEWN, "glue(0, 1) = 8; press(0, 2) = refused 3 2; bookOf(0, 2) = 1");
        Script.run("terms, the presses 0 and 1: far away",
                Steps.SEWN,
                "glue(0, 1) = 8; press(0, 2147483647) = refused 3 2147483647; press(0, -2147483648) = refused 3 -2147483648");
        Script.run("terms, at most 3 books: the third",
                Steps.FOUR_GLUED, "press(0, 0) = 1; press(1, 0) = 2; press(2, 0) = 3; account(4) = 3");
        Script.run("terms, at most 3 books: a fourth",
                Steps.FOUR_GLUED,
                "press(0, 0); press(1, 0); press(2, 0); press(3, 0) = refused 2 3; bookOf(3, 2) = 1; account(4) = 3");
        Script.run("terms, at most 3 books: each press for itself",
                Steps.FOUR_GLUED, "press(0, 0); press(1, 0); press(2, 0); press(3, 1) = 1; account(4) = 4");
        Script.run("terms, at most 3 books: one less when one is lifted",
                Steps.FOUR_GLUED, "press(0, 0); press(2, 0); press(1, 0); pass(8) = 0; lift(0) = 1; press(3, 0) = 3");
        Script.run("promise 10, a book that is in a press",
                Steps.SEWN,
                "glue(0, 1) = 8; press(0, 0) = 1; press(0, 0) = refused 4 2; press(0, 1) = refused 4 2; account(4) = 1");
        Script.run("promise 10, a book that came loose",
                Steps.SEWN, "glue(0, 1) = 8; pass(8) = 1; press(0, 0) = refused 4 0");
        Script.run("promise 27, the place above the top one",
                Steps.FOUR_GLUED,
                "press(0, 0); inPress(0, 1) = throws NoSuchElementException; press(1, 0); inPress(0, 1) = 1",
                "inPress(0, 2) = throws NoSuchElementException");
        Script.run("promise 27, from below",
                Steps.FOUR_GLUED,
                "press(2, 1); press(0, 1); press(3, 1); inPress(1, 0) = 2; inPress(1, 1) = 0; inPress(1, 2) = 3",
                "inPress(1, 3) = throws NoSuchElementException");
        Script.run("promise 27, a negative place",
                Steps.FOUR_GLUED, "press(0, 0); inPress(0, -1) = throws NoSuchElementException",
                "inPress(0, -2147483648) = throws NoSuchElementException");
        Script.run("promise 27, a place far away",
                Steps.FOUR_GLUED, "press(0, 0); inPress(0, 2147483647) = throws NoSuchElementException");
        Script.run("promise 27, a lifted book is there no more",
                Steps.FOUR_GLUED,
                "press(0, 0); press(1, 0); pass(8); lift(0) = 1; inPress(0, 1) = throws NoSuchElementException",
                "inPress(0, 0) = 0");
    }

    private static void lift() {
        Script.run("promise 11, an empty press", "lift(0) = refused 11 0; lift(1) = refused 11 1");
        Script.run("promise 11, a press that is empty again",
                Steps.SEWN, "glue(0, 1); press(0, 1); pass(8); lift(1) = 0; lift(1) = refused 11 1");
        Script.run("promise 11, an empty press beside a full one",
                Steps.FOUR_GLUED, "press(0, 0); press(1, 0); press(2, 0); lift(1) = refused 11 1");
        Script.run("promise 11, no press",
                "lift(-1) = refused 3 -1; lift(2) = refused 3 2; lift(2147483647) = refused 3 2147483647",
                "lift(-2147483648) = refused 3 -2147483648");
        Script.run("promise 11, the glue is not set: how many minutes it still needs",
                Steps.SEWN,
                "glue(0, 0); press(0, 0); lift(0) = refused 10 30; pass(29); lift(0) = refused 10 1; bookOf(0, 2) = 2");
        Script.run("terms, the top one when its glue is set, not that of those below",
                Steps.FOUR_GLUED, "press(0, 0); press(1, 0); pass(8); lift(0) = 1; bookOf(0, 8) = 22");
        Script.run("terms, only the top one: below it one is set",
                Steps.FOUR_GLUED,
                "press(1, 0); press(0, 0); pass(8); bookOf(1, 8) = 0; lift(0) = refused 10 22; bookOf(1, 2) = 2");
        Script.run("terms, and is bound then",
                Steps.SEWN,
                "glue(0, 1); press(0, 0); pass(8); bookOf(0, 2) = 2; lift(0) = 0; bookOf(0, 2) = 3; account(4) = 0");
        Script.run("promise 28, all are set",
                Steps.SEWN, "glue(0, 1); press(0, 0); pass(8); readyIn(0) = 0; readyAgain(0) = 0; pass(60); readyIn(0) = 0",
                "readyAgain(0) = 0");
        Script.run("promise 28, the most minutes: at the bottom",
                Steps.FOUR_GLUED, "press(0, 0); press(2, 0); press(1, 0); readyIn(0) = 30; readyAgain(0) = 30");
        Script.run("promise 28, the most minutes: on the top",
                Steps.FOUR_GLUED, "press(1, 0); press(2, 0); press(0, 0); readyIn(0) = 30; readyAgain(0) = 30");
        Script.run("promise 28, one minute before",
                Steps.FOUR_GLUED,
                "press(1, 0); press(0, 0); pass(29); readyIn(0) = 1; readyAgain(0) = 1; pass(1); readyIn(0) = 0",
                "readyAgain(0) = 0");
        Script.run("promise 28, each press for itself",
                Steps.FOUR_GLUED,
                "press(1, 0); press(0, 1); readyIn(0) = 8; readyAgain(0) = 8; readyIn(1) = 30; readyAgain(1) = 30");
        Script.run("promises 28 and 29, an empty press",
                "readyIn(0) = throws NoSuchElementException; readyIn(1) = throws NoSuchElementException",
                "readyAgain(0) = throws NoSuchElementException; readyAgain(1) = throws NoSuchElementException");
    }

    private static void pass() {
        Script.run("promise 14, 1 to 60: 0", "pass(0) = refused 1 0; account(0) = 0");
        Script.run("promise 14, 1 to 60: 1", "pass(1) = 0; account(0) = 1");
        Script.run("promise 14, 1 to 60: 60", "pass(60) = 0; account(0) = 60");
        Script.run("promise 14, 1 to 60: 61", "pass(61) = refused 1 0; account(0) = 0");
        Script.run("promise 14, far out of range",
                "pass(-1) = refused 1 0; pass(-2147483648) = refused 1 0; pass(2147483647) = refused 1 0; account(0) = 0");
        Script.run("promise 14, one after the other: books come loose at different ones",
                Steps.FOUR_GLUED,
                "pass(7) = 0; pass(1) = 1; pass(6) = 0; pass(1) = 2; pass(14) = 0; pass(1) = 1; pass(60) = 0");
        Script.run("promise 14, how many books are gathered again in all the minutes",
                Steps.FOUR_GLUED, "pass(30) = 4; account(8) = 4");
        Script.run("promise 14, those in a press are not gathered again",
                Steps.FOUR_GLUED,
                "press(0, 0); press(1, 1); pass(60) = 2; bookOf(0, 2) = 2; bookOf(1, 2) = 2; bookOf(2, 2) = 0");
        Script.run("promise 14, all six books",
                "spool(200); " + Script.times(6, "book(4, 2)"), sixGlued(),
                "pass(7) = 0; pass(1) = 6; account(8) = 6; bookOf(0, 2) = 0; bookOf(5, 2) = 0");
        Script.run("promise 14, no books", "pass(60) = 0; pass(60) = 0; account(0) = 120");
    }

    private static String sixGlued() {
        StringBuilder glued = new StringBuilder();
        for (int book = 0; book < 6; book++) {
            glued.append(String.format("gather(%d, 1, 1, false) = 0; sew(%d); glue(%d, 1) = 8; ", book, book, book));
        }
        return glued.toString();
    }

    private static void slip() {
        String bound = "book(6, 2) = 0; gather(0, 1, 2, false) = 0; " + Steps.TO_BIND;
        Script.run("terms, at a position that is wrong: the last one that is right",
                bound, "slip(0, 5) = refused 12 5; bookOf(0, 6) = 0");
        Script.run("terms, at a position that is wrong: the first one that is wrong",
                bound, "slip(0, 6) = 1; hasSlip(0, 6) = true; hasSlip(0, 5) = false; hasSlip(0, 7) = false");
        Script.run("terms, at a position that is wrong: the last one of the book",
                bound, "slip(0, 7) = 1; hasSlip(0, 7) = true");
        Script.run("promise 12, the position is none: behind the last one",
                bound, "slip(0, 8) = refused 12 8; account(9) = 0");
        Script.run("promise 12, the position is none: a negative one", bound, "slip(0, -1) = refused 12 -1; account(9) = 0");
        Script.run("promise 12, the position is none: far away",
                bound, "slip(0, 2147483647) = refused 12 2147483647; slip(0, -2147483648) = refused 12 -2147483648",
                "slip(0, 192) = refused 12 192");
        Script.run("terms, each position gets one at most",
                bound, "slip(0, 6) = 1; slip(0, 6) = refused 13 6; bookOf(0, 6) = 1; account(9) = 1");
        Script.run("terms, only a bound book",
                "book(4, 2) = 0; gather(0, 2, 1, false) = 0; slip(0, 0) = refused 4 0; sew(0); slip(0, 0) = refused 4 0",
                "glue(0, 1); slip(0, 0) = refused 4 1",
                "press(0, 0); slip(0, 0) = refused 4 2; pass(8); slip(0, 0) = refused 4 2; lift(0); slip(0, 0) = 1");
        Script.run("promise 26, positions: the first, the last, and those beside them",
                bound, "hasSlip(0, 0) = false; hasSlip(0, 7) = false",
                "hasSlip(0, 8) = throws IndexOutOfBoundsException; hasSlip(0, -1) = throws IndexOutOfBoundsException");
        Script.run("promise 26, a book without positions",
                "book(4, 2) = 0; hasSlip(0, 0) = throws IndexOutOfBoundsException");
        Script.run("promise 26, 192 positions",
                "book(4, 2) = 0", Script.times(12, "gather(0, 1, 3, false)"),
                "hasSlip(0, 191) = false; hasSlip(0, 192) = throws IndexOutOfBoundsException");
        Script.run("promise 26, positions far away",
                bound, "hasSlip(0, 2147483647) = throws IndexOutOfBoundsException",
                "hasSlip(0, -2147483648) = throws IndexOutOfBoundsException");
        Script.run("promise 26, slips beside each other, over the 64th and the 128th position",
                "spool(200); book(4, 2) = 0", Script.times(12, "gather(0, 50, 3, false)"), Script.times(11, "sew(0)"),
                Steps.TO_BIND,
                "slip(0, 63) = 1; hasSlip(0, 64) = false; slip(0, 64) = 2; slip(0, 127) = 3; hasSlip(0, 128) = false",
                "slip(0, 191) = 4",
                "hasSlip(0, 0) = false; hasSlip(0, 63) = true; hasSlip(0, 64) = true; hasSlip(0, 127) = true",
                "hasSlip(0, 128) = false; hasSlip(0, 191) = true");
    }

    private static void deliver() {
        Script.run("terms, each wrong position has a slip: there is no wrong one",
                Steps.SEWN, Steps.SEWN_TO_BOUND, "deliver(0) = 0; bookOf(0, 2) = 4");
        Script.run("terms, each wrong position has a slip: the first one lacks",
                "book(6, 2) = 0; gather(0, 1, 2, false) = 0", Steps.TO_BIND,
                "slip(0, 7) = 1; deliver(0) = refused 14 6; slip(0, 6) = 2; deliver(0) = 0");
        Script.run("terms, each wrong position has a slip: the last one lacks",
                "book(6, 2) = 0; gather(0, 1, 2, false) = 0", Steps.TO_BIND,
                "slip(0, 6) = 1; deliver(0) = refused 14 7; slip(0, 7) = 2; deliver(0) = 0");
        Script.run("terms, each wrong position has a slip: one between lacks",
                "book(4, 2) = 0; gather(0, 5, 1, false) = 0", Steps.TO_BIND,
                "slip(0, 0); slip(0, 1); slip(0, 3); deliver(0) = refused 14 2; slip(0, 2) = 4; deliver(0) = 0",
                "account(1) = 16");
        Script.run("promise 13, only a bound book",
                "book(4, 2) = 0; deliver(0) = refused 4 0; gather(0, 1, 1, false); sew(0); deliver(0) = refused 4 0",
                "glue(0, 1); deliver(0) = refused 4 1",
                "press(0, 0); deliver(0) = refused 4 2; pass(8); deliver(0) = refused 4 2; lift(0); deliver(0) = 0",
                "deliver(0) = refused 4 4; account(5) = 1");
        Script.run("promise 13, a delivered book keeps its slips and its glue",
                "book(4, 2) = 0; gather(0, 2, 1, true) = 0", Steps.TO_BIND,
                "slip(0, 0); slip(0, 1); slip(0, 3); deliver(0) = 0; bookOf(0, 6) = 3; hasSlip(0, 3) = true",
                "bookOf(0, 7) = 1; bookOf(0, 4) = 1");
    }

    private static void coins() {
        Script.run("terms, a coin for each 8 right positions: 7",
                "book(7, 2) = 0; gather(0, 1, 2, false) = 0", Steps.TO_BIND,
                "slip(0, 7) = 1; deliver(0) = 0; account(10) = 0; account(1) = 20");
        Script.run("terms, a coin for each 8 right positions: 8",
                "book(8, 2) = 0; gather(0, 1, 2, false) = 0", Steps.TO_BIND,
                "deliver(0) = 1; account(10) = 1; account(1) = 21");
        Script.run("terms, a coin for each 8 right positions: 15",
                "book(15, 2) = 0; gather(0, 1, 3, false) = 0", Steps.TO_BIND,
                "slip(0, 15) = 1; deliver(0) = 1; account(10) = 1");
        Script.run("terms, a coin for each 8 right positions: 16",
                "book(16, 2) = 0; gather(0, 1, 3, false) = 0", Steps.TO_BIND, "deliver(0) = 2; account(10) = 2");
        Script.run("terms, a coin for each 8 right positions: none",
                "book(4, 2) = 0; gather(0, 1, 1, true) = 0", Steps.TO_BIND,
                "slip(0, 0); slip(0, 1); slip(0, 2); slip(0, 3); deliver(0) = 0; account(1) = 20");
        Script.run("terms, one coin for each missing page: the coins just reach",
                "book(24, 2) = 0; gather(0, 1, 1, false) = 0", Steps.TO_BIND,
                "missing(0) = 20; deliver(0) = 0; account(1) = 0");
        Script.run("terms, one coin for each missing page: one is missing",
                "book(25, 2) = 0; gather(0, 1, 1, false) = 0", Steps.TO_BIND,
                "missing(0) = 21; deliver(0) = refused 15 1; account(1) = 20; bookOf(0, 2) = 3");
        Script.run("terms, one coin for each missing page: as many as can be missing",
                "book(96, 2) = 0; gather(0, 97, 1, false) = 0", Steps.TO_BIND,
                "slip(0, 0); slip(0, 1); slip(0, 2); slip(0, 3); missing(0) = 96; deliver(0) = refused 15 76");
        Script.run("terms, one coin for each missing page: none is missing",
                Steps.TWELVE, Script.times(11, "sew(0)"), Steps.TO_BIND, "missing(0) = 0; deliver(0) = 6; account(1) = 26");
        Script.run("terms, a missing page needs no slip",
                "book(5, 2) = 0; gather(0, 1, 1, false) = 0", Steps.TO_BIND,
                "missing(0) = 1; deliver(0) = 0; account(9) = 0; account(1) = 19");
        Script.run("details, the coins must be there ahead of what the book brings",
                "book(37, 2) = 0; gather(0, 1, 3, false) = 0", Steps.TO_BIND, "missing(0) = 21; deliver(0) = refused 15 1");
        Script.run("details, what a book brings pays for the next one",
                "book(16, 2) = 0; gather(0, 1, 3, false) = 0", Steps.TO_BIND,
                "deliver(0) = 2; book(26, 2) = 1; gather(1, 1, 1, false) = 0",
                "sew(1); glue(1, 1); press(1, 0); pass(8); lift(0) = 1; missing(1) = 22; deliver(1) = 0; account(1) = 0");
        Script.run("promise 13, those for missing pages not taken away",
                "book(36, 2) = 0; gather(0, 1, 3, false) = 0", Steps.TO_BIND,
                "missing(0) = 20; deliver(0) = 2; account(1) = 2; account(10) = 2");
    }
}
