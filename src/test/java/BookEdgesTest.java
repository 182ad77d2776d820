/** The edges of books, signatures and their pages: each sentence that names one, of the terms and promises 1 to 5. */
public final class BookEdgesTest {
    public static void main(String[] args) {
        newObject();
        books();
        signatures();
        leafing();
        move();
        drop();
        rightPositions();
        missingPages();
        Script.finish("BookEdgesTest");
    }

    private static void newObject() {
        Script.run("promise 1, without books: no number is one", "bookOf(0, 0) = throws IndexOutOfBoundsException",
                "account(3) = 0; sew(0) = refused 3 0");
        Script.run("promise 1, no signatures, no mean", "account(6) = 0; meanSignatures() = throws ArithmeticException");
        Script.run("terms, the spool has 100 at first", "account(2) = 100");
        Script.run("terms, the coins are 20 at first", "account(1) = 20");
        Script.run("promise 1, both presses are empty", "inPress(0, 0) = throws NoSuchElementException",
                "inPress(1, 0) = throws NoSuchElementException; account(4) = 0");
    }

    private static void books() {
        Script.run("terms, at most 6 books: a seventh",
                Script.times(6, "book(4, 2)"), "book(4, 2) = refused 2 6; account(3) = 6");
        Script.run("terms, at most 6 books: the sixth", Script.times(5, "book(4, 2)"), "book(4, 2) = 5; account(3) = 6");
        Script.run("terms, at most 6 books: one less when one is undone", Script.times(6, "book(4, 2)"),
                "undo() = 5; book(7, 3) = 5; bookOf(5, 0) = 7; book(4, 2) = refused 2 6");
        Script.run("terms, numbered from 0", "book(4, 2) = 0; book(5, 3) = 1; bookOf(0, 0) = 4; bookOf(1, 0) = 5",
                "bookOf(2, 0) = throws IndexOutOfBoundsException; bookOf(-1, 0) = throws IndexOutOfBoundsException");
        Script.run("terms, 4 to 96 pages: 3", "book(3, 2) = refused 1 0; account(3) = 0");
        Script.run("terms, 4 to 96 pages: 4", "book(4, 2) = 0; bookOf(0, 0) = 4");
        Script.run("terms, 4 to 96 pages: 96", "book(96, 2) = 0; bookOf(0, 0) = 96");
        Script.run("terms, 4 to 96 pages: 97", "book(97, 2) = refused 1 0; account(3) = 0");
        Script.run("terms, 2 to 5 stations: 1", "book(4, 1) = refused 1 0; account(3) = 0");
        Script.run("terms, 2 to 5 stations: 2", "book(4, 2) = 0; bookOf(0, 1) = 2");
        Script.run("terms, 2 to 5 stations: 5", "book(4, 5) = 0; bookOf(0, 1) = 5");
        Script.run("terms, 2 to 5 stations: 6", "book(4, 6) = refused 1 0; account(3) = 0");
        Script.run("promise 2, numbers far out of range",
                "book(-2147483648, 2) = refused 1 0; book(2147483647, 2) = refused 1 0",
                "book(4, -2147483648) = refused 1 0; book(4, 2147483647) = refused 1 0; book(-4, -2) = refused 1 0",
                "account(3) = 0");
        Script.run("promise 2, a refused book takes no number", "book(3, 2) = refused 1 0; book(4, 2) = 0");
        Script.run("terms, a book is gathered, 0, at first",
                "book(4, 2) = 0; bookOf(0, 2) = 0; bookOf(0, 3) = 0; bookOf(0, 7) = -1");
        Script.run("terms, glued, 1; in a press, 2; bound, 3; or delivered, 4", Steps.SEWN,
                "bookOf(0, 2) = 0; glue(0, 1); bookOf(0, 2) = 1; press(0, 0); bookOf(0, 2) = 2; pass(8); bookOf(0, 2) = 2",
                "lift(0); bookOf(0, 2) = 3; deliver(0); bookOf(0, 2) = 4");
    }

    private static void signatures() {
        Script.run("terms, at most 12 signatures: the twelfth", Steps.TWELVE, "bookOf(0, 3) = 12");
        Script.run("terms, at most 12 signatures: a thirteenth",
                Steps.TWELVE, "gather(0, 1, 1, false) = refused 2 12; bookOf(0, 3) = 12");
        Script.run("terms, at most 12 signatures: one less when one is dropped", Steps.TWELVE,
                "drop(0, 0) = 11; gather(0, 1, 1, false) = 11; gather(0, 1, 1, false) = refused 2 12");
        Script.run("terms, at most 12 signatures: of one book",
                Steps.TWELVE, "book(4, 2) = 1; gather(1, 1, 1, false) = 0; account(6) = 13");
        Script.run("terms, the places from 0 on",
                "book(4, 2) = 0; gather(0, 9, 1, false) = 0; gather(0, 7, 1, false) = 1",
                "signatureOf(0, 0, 0) = 9; signatureOf(0, 1, 0) = 7",
                "signatureOf(0, 2, 0) = throws IndexOutOfBoundsException");
        Script.run("terms, a fold from 1 to 3: 0", "book(4, 2) = 0; gather(0, 1, 0, false) = refused 1 0; bookOf(0, 3) = 0");
        Script.run("terms, a fold from 1 to 3: 4", "book(4, 2) = 0; gather(0, 1, 4, false) = refused 1 0; bookOf(0, 3) = 0");
        Script.run("terms, by the fold 1 it has 4 pages",
                "book(4, 2) = 0; gather(0, 1, 1, false) = 0; bookOf(0, 5) = 4; signatureOf(0, 0, 1) = 4");
        Script.run("terms, by the fold 2 it has 8 pages",
                "book(4, 2) = 0; gather(0, 1, 2, false) = 0; bookOf(0, 5) = 8; signatureOf(0, 0, 1) = 8");
        Script.run("terms, by the fold 3 it has 16 pages",
                "book(4, 2) = 0; gather(0, 1, 3, false) = 0; bookOf(0, 5) = 16; signatureOf(0, 0, 1) = 16");
        Script.run("terms, a first page from 1 to 99: 0",
                "book(4, 2) = 0; gather(0, 0, 1, false) = refused 1 0; bookOf(0, 3) = 0");
        Script.run("terms, a first page from 1 to 99: 1",
                "book(4, 2) = 0; gather(0, 1, 1, false) = 0; signatureOf(0, 0, 0) = 1");
        Script.run("terms, a first page from 1 to 99: 99",
                "book(4, 2) = 0; gather(0, 99, 1, false) = 0; signatureOf(0, 0, 1) = 102",
                "gather(0, 99, 2, false) = 1; signatureOf(0, 1, 1) = 106; gather(0, 99, 3, false) = 2",
                "signatureOf(0, 2, 1) = 114");
        Script.run("terms, a first page from 1 to 99: 100",
                "book(4, 2) = 0; gather(0, 100, 1, false) = refused 1 0; bookOf(0, 3) = 0");
        Script.run("promise 3, numbers far out of range", "book(4, 2) = 0; gather(0, -2147483648, 1, false) = refused 1 0",
                "gather(0, 2147483647, 1, false) = refused 1 0; gather(0, 1, -2147483648, false) = refused 1 0",
                "gather(0, 1, 2147483647, false) = refused 1 0; gather(0, -1, -1, true) = refused 1 0; bookOf(0, 3) = 0");
        Script.run("promise 3, a first page may be more than the planned pages",
                "book(4, 2) = 0; gather(0, 5, 1, false) = 0; wrong(0) = 4");
        Script.run("promise 3, the same signature twice",
                "book(4, 2) = 0; gather(0, 1, 1, true) = 0; gather(0, 1, 1, true) = 1; twice(0) = 4");
    }

    private static void leafing() {
        Script.run("terms, pages by their numbers: the first and the last one",
                "book(4, 2) = 0; gather(0, 50, 3, false) = 0",
                "pageAt(0, 0) = 50; pageAt(0, 1) = 51; pageAt(0, 15) = 65; pageAt(0, 16) = throws IndexOutOfBoundsException");
        Script.run("terms, from the last one to the first one if it is turned", "book(4, 2) = 0; gather(0, 50, 3, true) = 0",
                "pageAt(0, 0) = 65; pageAt(0, 1) = 64; pageAt(0, 15) = 50; pageAt(0, 16) = throws IndexOutOfBoundsException");
        Script.run("terms, a turned signature keeps its first and last page", "book(4, 2) = 0; gather(0, 99, 2, true) = 0",
                "signatureOf(0, 0, 0) = 99; signatureOf(0, 0, 1) = 106; signatureOf(0, 0, 3) = 1");
        Script.run("terms, the pages of the signatures come by their places",
                "book(4, 2) = 0; gather(0, 9, 1, false) = 0; gather(0, 1, 1, true) = 1; gather(0, 5, 1, false) = 2",
                "pageAt(0, 3) = 12; pageAt(0, 4) = 4; pageAt(0, 7) = 1; pageAt(0, 8) = 5; pageAt(0, 11) = 8");
        Script.run("terms, a position for each page that comes: none", "book(4, 2) = 0; bookOf(0, 5) = 0",
                "pageAt(0, 0) = throws IndexOutOfBoundsException; wrong(0) = 0; wrongAgain(0) = 0");
        Script.run("terms, a position for each page that comes: 192",
                "book(96, 2) = 0", Script.times(11, "gather(0, 1, 3, false)"),
                "gather(0, 99, 3, true) = 11; bookOf(0, 5) = 192; pageAt(0, 191) = 99; pageAt(0, 176) = 114",
                "pageAt(0, 175) = 16", "pageAt(0, 192) = throws IndexOutOfBoundsException; signatureOf(0, 11, 4) = 176");
    }

    private static void move() {
        Script.run("promise 4, to the same place: the only one",
                "book(4, 2) = 0; gather(0, 1, 1, false) = 0; move(0, 0, 0) = 0");
        Script.run("promise 4, to the same place: the last one",
                Steps.TWELVE, "move(0, 11, 11) = 0; signatureOf(0, 11, 0) = 45");
        Script.run("promise 4, from the first place to the last one", Steps.TWELVE, "move(0, 0, 11) = 48",
                "signatureOf(0, 0, 0) = 5; signatureOf(0, 10, 0) = 45; signatureOf(0, 11, 0) = 1");
        Script.run("promise 4, from the last place to the first one", Steps.TWELVE, "move(0, 11, 0) = 48",
                "signatureOf(0, 0, 0) = 45; signatureOf(0, 1, 0) = 1; signatureOf(0, 11, 0) = 41");
        Script.run("promise 4, the others keep their order", Steps.TWELVE, "move(0, 3, 7) = 20; signatureOf(0, 2, 0) = 9",
                "signatureOf(0, 3, 0) = 17; signatureOf(0, 6, 0) = 29; signatureOf(0, 7, 0) = 13; signatureOf(0, 8, 0) = 33");
        Script.run("promise 4, it keeps its fold and whether it is turned",
                "book(4, 2) = 0; gather(0, 9, 3, true) = 0; gather(0, 1, 1, false) = 1; move(0, 0, 1) = 16",
                "signatureOf(0, 1, 2) = 3; signatureOf(0, 1, 3) = 1; signatureOf(0, 0, 2) = 1; signatureOf(0, 0, 3) = 0");
        Script.run("promise 4, the others keep their folds and their sides too, forwards and backwards",
                "book(4, 2) = 0; gather(0, 1, 1, true); gather(0, 9, 2, false); gather(0, 17, 3, true)",
                "gather(0, 40, 1, false)", "move(0, 0, 3) = 32; line(0) = 25; shown() = \"0: 9-16 17-32! 40-43 1-4!\"",
                "move(0, 3, 0) = 32; line(0) = 25; shown() = \"0: 1-4! 9-16 17-32! 40-43\"");
        Script.run("promise 4, no place: a book without signatures", "book(4, 2) = 0; move(0, 0, 0) = refused 3 0");
        Script.run("promise 4, no place: the one behind the last one",
                Steps.TWELVE, "move(0, 12, 0) = refused 3 12; move(0, 0, 12) = refused 3 12");
        Script.run("promise 4, no place: a negative one",
                Steps.TWELVE, "move(0, -1, 0) = refused 3 -1; move(0, 0, -1) = refused 3 -1");
        Script.run("promise 4, no place: far away", Steps.TWELVE,
                "move(0, 2147483647, 0) = refused 3 2147483647; move(0, 0, 2147483647) = refused 3 2147483647",
                "move(0, -2147483648, 0) = refused 3 -2147483648; move(0, 0, -2147483648) = refused 3 -2147483648");
    }

    private static void drop() {
        Script.run("promise 5, the only one", "book(4, 2) = 0; gather(0, 1, 1, false) = 0; drop(0, 0) = 0; bookOf(0, 5) = 0");
        Script.run("promise 5, the first one: all later places become 1 less",
                Steps.TWELVE, "drop(0, 0) = 11; signatureOf(0, 0, 0) = 5; signatureOf(0, 10, 0) = 45",
                "signatureOf(0, 11, 0) = throws IndexOutOfBoundsException");
        Script.run("promise 5, the last one: no place changes", Steps.TWELVE, "drop(0, 11) = 11; signatureOf(0, 0, 0) = 1",
                "signatureOf(0, 10, 0) = 41; signatureOf(0, 11, 0) = throws IndexOutOfBoundsException");
        Script.run("promise 5, all of them",
                Steps.TWELVE, Script.times(11, "drop(0, 0)"), "drop(0, 0) = 0; drop(0, 0) = refused 3 0");
        Script.run("promise 5, no place: a book without signatures", "book(4, 2) = 0; drop(0, 0) = refused 3 0");
        Script.run("promise 5, no place: the one behind the last one",
                Steps.TWELVE, "drop(0, 12) = refused 3 12; bookOf(0, 3) = 12");
        Script.run("promise 5, no place: a negative one", Steps.TWELVE, "drop(0, -1) = refused 3 -1; bookOf(0, 3) = 12");
        Script.run("promise 5, no place: far away",
                Steps.TWELVE, "drop(0, 2147483647) = refused 3 2147483647; drop(0, -2147483648) = refused 3 -2147483648");
    }

    private static void rightPositions() {
        Script.run("terms, right if the page has the number of the position and 1",
                "book(4, 2) = 0; gather(0, 1, 1, false) = 0; wrong(0) = 0");
        Script.run("terms, wrong if the page is one more",
                "book(8, 2) = 0; gather(0, 2, 1, false) = 0; wrong(0) = 4; firstWrong(0) = 0");
        Script.run("terms, wrong if the page is one less",
                "book(8, 2) = 0; gather(0, 1, 1, false) = 0; gather(0, 4, 1, false) = 1; wrong(0) = 4", "firstWrong(0) = 4");
        Script.run("terms, not more than the planned pages: the last planned page",
                "book(7, 2) = 0; gather(0, 1, 2, false) = 0",
                "pageAt(0, 6) = 7; pageAt(0, 7) = 8; wrong(0) = 1; firstWrong(0) = 7");
        Script.run("terms, not more than the planned pages: the last planned page ends a signature",
                "book(4, 2) = 0; gather(0, 1, 1, false) = 0; gather(0, 5, 1, false) = 1; wrong(0) = 4; wrongAgain(0) = 4",
                "firstWrong(0) = 4");
        Script.run("terms, not more than the planned pages: 96",
                "book(96, 2) = 0; gather(0, 1, 3, false); gather(0, 17, 3, false)",
                "gather(0, 33, 3, false); gather(0, 49, 3, false); gather(0, 65, 3, false); gather(0, 81, 3, false)",
                "wrong(0) = 0",
                "gather(0, 97, 3, false) = 6; wrong(0) = 16; wrongAgain(0) = 16; firstWrong(0) = 96; missing(0) = 0");
        Script.run("promise 19, all positions of an unturned one are right, or none is",
                "book(96, 2) = 0; gather(0, 1, 3, false) = 0; gather(0, 18, 3, false) = 1; wrong(0) = 16",
                "wrongAgain(0) = 16");
        Script.run("promise 19, up to the last planned page: one of 16", "book(17, 2) = 0; gather(0, 1, 3, false) = 0",
                "gather(0, 17, 3, false) = 1; wrong(0) = 15; wrongAgain(0) = 15");
        Script.run("promise 19, up to the last planned page: 15 of 16",
                "book(15, 2) = 0; gather(0, 1, 3, false) = 0; wrong(0) = 1; wrongAgain(0) = 1");
        Script.run("promise 19, one of a turned one: its first position", "book(8, 2) = 0; gather(0, 1, 1, false) = 0",
                "gather(0, 2, 1, true) = 1; pageAt(0, 4) = 5; wrong(0) = 3; wrongAgain(0) = 3; firstWrong(0) = 5");
        Script.run("promise 19, one of a turned one: its last position", "book(8, 2) = 0; gather(0, 4, 1, true) = 0",
                "pageAt(0, 3) = 4; wrong(0) = 3; wrongAgain(0) = 3; firstWrong(0) = 0");
        Script.run("promise 19, none of a turned one: the page would come ahead of it",
                "book(8, 2) = 0; gather(0, 5, 2, false) = 0",
                "gather(0, 1, 1, true) = 1; wrong(0) = 12; wrongAgain(0) = 12");
        Script.run("promise 19, none of a turned one: the page would come behind it",
                "book(8, 2) = 0; gather(0, 6, 1, true) = 0; wrong(0) = 4; wrongAgain(0) = 4");
        Script.run("promise 19, none of a turned one: between two positions",
                "book(8, 2) = 0; gather(0, 1, 1, true) = 0; wrong(0) = 4; wrongAgain(0) = 4");
        Script.run("promise 19, none of a turned one: the page is planned no more",
                "book(4, 2) = 0; gather(0, 1, 1, false) = 0", "gather(0, 2, 1, true) = 1; wrong(0) = 4; wrongAgain(0) = 4");
        Script.run("promise 20, there is none: no positions",
                "book(4, 2) = 0; firstWrong(0) = throws NoSuchElementException");
        Script.run("promise 20, there is none: all are right", Steps.TWELVE, "firstWrong(0) = throws NoSuchElementException");
        Script.run("promise 20, the first one is the last position",
                "book(15, 2) = 0; gather(0, 1, 3, false) = 0; firstWrong(0) = 15");
        Script.run("promise 20, a wrong position with a slip is wrong still",
                "book(4, 2) = 0; gather(0, 5, 1, false) = 0", Steps.TO_BIND,
                "slip(0, 0) = 1; firstWrong(0) = 0; wrong(0) = 4; wrongAgain(0) = 4; slip(0, 0) = refused 13 0");
        Script.run("promise 20, the first one is the position 0",
                "book(4, 2) = 0; gather(0, 1, 1, true) = 0; firstWrong(0) = 0");
    }

    private static void missingPages() {
        Script.run("terms, missing if it comes at no position: all",
                "book(96, 2) = 0; missing(0) = 96; missingPage(0, 0) = 1; missingPage(0, 95) = 96",
                "missingPage(0, 96) = throws NoSuchElementException");
        Script.run("terms, missing if it comes at no position: none",
                "book(4, 2) = 0; gather(0, 1, 1, false) = 0; missing(0) = 0",
                "missingPage(0, 0) = throws NoSuchElementException");
        Script.run("terms, missing if it comes at no position: the first and the last one",
                "book(6, 2) = 0; gather(0, 2, 1, false) = 0", "missing(0) = 2; missingPage(0, 0) = 1; missingPage(0, 1) = 6",
                "missingPage(0, 2) = throws NoSuchElementException");
        Script.run("terms, missing if it comes at no position: between two signatures",
                "book(9, 2) = 0; gather(0, 1, 1, false) = 0",
                "gather(0, 6, 1, false) = 1; missing(0) = 1; missingPage(0, 0) = 5");
        Script.run("details, a page that comes at a wrong position is not missing",
                "book(4, 2) = 0; gather(0, 1, 1, true) = 0; wrong(0) = 4; missing(0) = 0");
        Script.run("terms, a page that is not planned is not missing",
                "book(4, 2) = 0; gather(0, 1, 1, false) = 0; missing(0) = 0; gather(0, 9, 1, false) = 1; missing(0) = 0");
        Script.run("promise 22, a negative place", "book(4, 2) = 0; missingPage(0, -1) = throws NoSuchElementException",
                "missingPage(0, -2147483648) = throws NoSuchElementException");
        Script.run("promise 22, a place far away",
                "book(4, 2) = 0; missingPage(0, 2147483647) = throws NoSuchElementException");
        Script.run("promise 23, at one position only",
                "book(8, 2) = 0; gather(0, 1, 1, false) = 0; gather(0, 5, 1, false) = 1; twice(0) = 0");
        Script.run("promise 23, at two positions: one page of each",
                "book(8, 2) = 0; gather(0, 1, 1, false) = 0; gather(0, 4, 1, false) = 1; twice(0) = 1");
        Script.run("promise 23, at three positions, which is one page still", "book(8, 2) = 0; gather(0, 1, 1, false) = 0",
                "gather(0, 4, 1, false) = 1; gather(0, 4, 1, true) = 2; twice(0) = 4");
        Script.run("promise 23, the lowest page",
                "book(4, 2) = 0; gather(0, 1, 1, false) = 0; gather(0, 1, 1, true) = 1; twice(0) = 4");
        Script.run("promise 23, the highest page",
                "book(4, 2) = 0; gather(0, 99, 3, false) = 0; gather(0, 99, 3, true) = 1; twice(0) = 16");
        Script.run("promise 23, no positions", "book(4, 2) = 0; twice(0) = 0");
    }
}
