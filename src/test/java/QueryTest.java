/** Promises 15 to 24, 30, 37 and 38: what a bindery tells of its books. */
public final class QueryTest {
    // 16 planned pages: 1-8, then 14-7 turned, then 1-4; only the first 8 positions are right, and 15 and 16 are missing.
    private static final String MIXED =
            "book(16, 2) = 0; gather(0, 1, 2, false) = 0; gather(0, 7, 2, true) = 1; gather(0, 1, 1, false) = 2";

    public static void main(String[] args) {
        bookOf();
        signatureOf();
        pageAt();
        wrong();
        firstWrong();
        missing();
        twice();
        rightPlace();
        ranked();
        shares();
        Script.finish("QueryTest");
    }

    private static void bookOf() {
        Script.run("promise 15, the numbers of a book", MIXED,
                "bookOf(0, 0) = 16; bookOf(0, 1) = 2; bookOf(0, 2) = 0; bookOf(0, 3) = 3; bookOf(0, 4) = 0; bookOf(0, 5) = 20",
                "bookOf(0, 6) = 0; bookOf(0, 7) = -1; bookOf(0, 8) = 0; sew(0); bookOf(0, 4) = 1; sew(0); sew(0); glue(0, 2)",
                "bookOf(0, 2) = 1; bookOf(0, 4) = 3; bookOf(0, 7) = 2; bookOf(0, 8) = 15; press(0, 1); bookOf(0, 2) = 2",
                "pass(4) = 0; bookOf(0, 7) = 2; bookOf(0, 8) = 11; pass(20) = 0; bookOf(0, 8) = 0; lift(1) = 0",
                "bookOf(0, 2) = 3; bookOf(0, 7) = 2; bookOf(0, 8) = 0; slip(0, 19) = 1; bookOf(0, 6) = 1");
        Script.run("promise 15, wrong numbers",
                "bookOf(0, 0) = throws IndexOutOfBoundsException; bookOf(-1, 9) = throws IndexOutOfBoundsException",
                "book(4, 2) = 0; bookOf(0, 9) = throws IllegalArgumentException; bookOf(0, -1) = throws IllegalArgumentException",
                "bookOf(1, 0) = throws IndexOutOfBoundsException; bookOf(1, 9) = throws IndexOutOfBoundsException",
                "bookOf(0, 2147483647) = throws IllegalArgumentException; bookOf(2147483647, 0) = throws IndexOutOfBoundsException");
    }

    private static void signatureOf() {
        Script.run("promise 16, the numbers of a signature", MIXED,
                "signatureOf(0, 1, 0) = 7; signatureOf(0, 1, 1) = 14; signatureOf(0, 1, 2) = 2; signatureOf(0, 1, 3) = 1",
                "signatureOf(0, 1, 4) = 8; signatureOf(0, 0, 3) = 0; signatureOf(0, 0, 4) = 0; signatureOf(0, 2, 4) = 16",
                "signatureOf(0, 2, 1) = 4; signatureOf(0, 2, 2) = 1; gather(0, 20, 3, false) = 3; signatureOf(0, 3, 1) = 35",
                "drop(0, 0) = 3; signatureOf(0, 0, 0) = 7; signatureOf(0, 1, 4) = 8; signatureOf(0, 2, 4) = 12");
        Script.run("promise 16, wrong numbers", MIXED,
                "signatureOf(1, 0, 0) = throws IndexOutOfBoundsException; signatureOf(0, 3, 0) = throws IndexOutOfBoundsException",
                "signatureOf(0, 3, 5) = throws IndexOutOfBoundsException; signatureOf(0, -1, -1) = throws IndexOutOfBoundsException",
                "signatureOf(0, 2, 5) = throws IllegalArgumentException; signatureOf(0, 2, -1) = throws IllegalArgumentException",
                "signatureOf(-1, 0, 9) = throws IndexOutOfBoundsException");
    }

    private static void pageAt() {
        Script.run("promise 17, in the order of leafing", MIXED,
                "pageAt(0, 0) = 1; pageAt(0, 7) = 8; pageAt(0, 8) = 14; pageAt(0, 9) = 13; pageAt(0, 15) = 7; pageAt(0, 16) = 1",
                "pageAt(0, 19) = 4; pageAt(0, 20) = throws IndexOutOfBoundsException; pageAt(0, -1) = throws IndexOutOfBoundsException",
                "pageAt(1, 0) = throws IndexOutOfBoundsException; pageAt(-1, 0) = throws IndexOutOfBoundsException",
                "pageAt(0, 2147483647) = throws IndexOutOfBoundsException; pageAt(0, -2147483648) = throws IndexOutOfBoundsException",
                "book(4, 2) = 1; pageAt(1, 0) = throws IndexOutOfBoundsException");
    }

    private static void wrong() {
        for (String call : new String[] {"wrong", "wrongAgain"}) {
            Script.run("promises 18 and 19, unturned signatures: " + call,
                    call + "(0) = throws IndexOutOfBoundsException; book(6, 2) = 0; " + call + "(0) = 0",
                    "gather(0, 1, 2, false) = 0; " + call + "(0) = 2; gather(0, 9, 1, false) = 1; " + call + "(0) = 6",
                    "gather(0, 1, 1, false) = 2; " + call + "(0) = 10; move(0, 0, 2) = 16; " + call + "(0) = 16",
                    call + "(1) = throws IndexOutOfBoundsException; " + call + "(-1) = throws IndexOutOfBoundsException");
            Script.run("promises 18 and 19, turned signatures: " + call,
                    "book(4, 2) = 0; gather(0, 1, 1, true) = 0; " + call + "(0) = 4; drop(0, 0) = 0",
                    "gather(0, 2, 1, true) = 0; " + call + "(0) = 3; gather(0, 4, 1, true) = 1; " + call + "(0) = 7",
                    "drop(0, 0) = 1; " + call + "(0) = 3; book(16, 2) = 1; gather(1, 5, 1, false) = 0",
                    "gather(1, 2, 1, true) = 1; " + call + "(1) = 7; gather(1, 4, 2, true) = 2; " + call + "(1) = 14",
                    "gather(1, 90, 3, true) = 3; " + call + "(1) = 30; book(16, 2) = 2; gather(2, 6, 1, true) = 0",
                    call + "(2) = 4; gather(2, 8, 1, true) = 1; " + call + "(2) = 7; drop(2, 0); gather(2, 2, 1, true) = 1",
                    call + "(2) = 7");
            Script.run("promises 18 and 19, a right page that is planned no more is wrong: " + call,
                    "book(8, 2) = 0; gather(0, 1, 1, false) = 0; gather(0, 6, 2, true) = 1; " + call + "(0) = 8",
                    "book(9, 2) = 1; gather(1, 1, 1, false) = 0; gather(1, 6, 2, true) = 1; " + call + "(1) = 7",
                    "book(4, 2) = 2; gather(2, 1, 1, false) = 0; gather(2, 5, 1, false) = 1; " + call + "(2) = 4");
        }
    }

    private static void firstWrong() {
        Script.run("promise 20, the first one", MIXED, "firstWrong(0) = 8; move(0, 1, 0) = 20; firstWrong(0) = 0",
                "book(6, 2) = 1; gather(1, 1, 2, false) = 0; firstWrong(1) = 6; sew(1); glue(1, 1); press(1, 0); pass(8)",
                "lift(0) = 1; slip(1, 6) = 1; firstWrong(1) = 6; slip(1, 7) = 2; firstWrong(1) = 6; wrong(1) = 2");
        Script.run("promise 20, none, and no such book",
                "firstWrong(0) = throws IndexOutOfBoundsException; book(8, 2) = 0; firstWrong(0) = throws NoSuchElementException",
                "gather(0, 1, 2, false) = 0; firstWrong(0) = throws NoSuchElementException",
                "firstWrong(1) = throws IndexOutOfBoundsException; firstWrong(-1) = throws IndexOutOfBoundsException");
    }

    private static void missing() {
        Script.run("promises 21 and 22, planned pages that come at no position", MIXED,
                "missing(0) = 2; missingPage(0, 0) = 15; missingPage(0, 1) = 16; missingPage(0, 2) = throws NoSuchElementException",
                "drop(0, 0) = 2; missing(0) = 4; missingPage(0, 0) = 5; missingPage(0, 1) = 6; missingPage(0, 3) = 16",
                "missingPage(0, 4) = throws NoSuchElementException; gather(0, 90, 3, false) = 2; missing(0) = 4");
        Script.run("promises 21 and 22, all pages, and none",
                "book(5, 2) = 0; missing(0) = 5; missingPage(0, 0) = 1; missingPage(0, 4) = 5",
                "missingPage(0, 5) = throws NoSuchElementException; missingPage(0, -1) = throws NoSuchElementException",
                "missingPage(0, -2147483648) = throws NoSuchElementException; gather(0, 1, 2, true) = 0; missing(0) = 0",
                "missingPage(0, 0) = throws NoSuchElementException");
        Script.run("promises 21 and 22, no such book",
                "missing(0) = throws IndexOutOfBoundsException; missingPage(0, 0) = throws IndexOutOfBoundsException",
                "book(4, 2) = 0; missing(1) = throws IndexOutOfBoundsException; missing(-1) = throws IndexOutOfBoundsException",
                "missingPage(1, -1) = throws IndexOutOfBoundsException; missingPage(-1, 0) = throws IndexOutOfBoundsException");
    }

    private static void twice() {
        Script.run("promise 23, pages at two positions or more", MIXED, "twice(0) = 6; gather(0, 1, 1, true) = 3; twice(0) = 6",
                "gather(0, 9, 1, true) = 4; twice(0) = 10; drop(0, 0) = 4; twice(0) = 8");
        Script.run("promise 23, pages that are not planned too",
                "book(4, 2) = 0; twice(0) = 0; gather(0, 99, 3, false) = 0; twice(0) = 0; gather(0, 99, 3, true) = 1; twice(0) = 16",
                "twice(1) = throws IndexOutOfBoundsException; twice(-1) = throws IndexOutOfBoundsException");
    }

    private static void rightPlace() {
        Script.run("promise 24, by the first pages, then by the places",
                "book(96, 2) = 0; gather(0, 9, 1, false) = 0; gather(0, 1, 2, true) = 1; gather(0, 9, 3, true) = 2; gather(0, 5, 1, false) = 3",
                "rightPlace(0, 0) = 2; rightPlace(0, 1) = 0; rightPlace(0, 2) = 3; rightPlace(0, 3) = 1; move(0, 2, 0)",
                "rightPlace(0, 0) = 2; rightPlace(0, 1) = 3; rightPlace(0, 4) = throws IndexOutOfBoundsException",
                "rightPlace(0, -1) = throws IndexOutOfBoundsException; rightPlace(1, 0) = throws IndexOutOfBoundsException",
                "rightPlace(-1, 0) = throws IndexOutOfBoundsException");
    }

    private static void ranked() {
        Script.run("promise 30, by wrong positions, then by missing pages, then by numbers",
                "book(4, 2) = 0; book(8, 2) = 1; book(8, 2) = 2; book(6, 2) = 3; book(90, 2) = 4; book(4, 2) = 5",
                "gather(5, 2, 1, false) = 0; gather(3, 5, 2, false) = 0; gather(0, 1, 1, false) = 0",
                "ranked(0) = 3; ranked(1) = 5; ranked(2) = 4; ranked(3) = 1; ranked(4) = 2; ranked(5) = 0",
                "ranked(6) = throws NoSuchElementException; ranked(-1) = throws NoSuchElementException");
        Script.run("promise 30, one wrong position comes ahead of 96 missing pages",
                "book(96, 2) = 0; book(7, 2) = 1; gather(1, 1, 2, false) = 0; wrong(1) = 1; missing(0) = 96; ranked(0) = 1",
                "ranked(1) = 0");
        Script.run("promise 30, books that are alike",
                "ranked(0) = throws NoSuchElementException", Script.times(3, "book(4, 2)"),
                "ranked(0) = 0; ranked(1) = 1; ranked(2) = 2; ranked(3) = throws NoSuchElementException",
                "ranked(2147483647) = throws NoSuchElementException; undo() = 2; ranked(2) = throws NoSuchElementException");
    }

    private static void shares() {
        Script.run("promise 37, the share of the right positions", MIXED,
                "rightShare(0) = 0.4; drop(0, 1) = 2; rightShare(0) = 0.6666667; drop(0, 1) = 1; rightShare(0) = 1.0",
                "move(0, 0, 0) = 0; drop(0, 0) = 0; rightShare(0) = throws ArithmeticException",
                "rightShare(1) = throws IndexOutOfBoundsException; rightShare(-1) = throws IndexOutOfBoundsException",
                "gather(0, 2, 1, false) = 0; rightShare(0) = 0.0");
        Script.run("promise 38, the mean number of signatures",
                "meanSignatures() = throws ArithmeticException; book(4, 2) = 0; meanSignatures() = 0.0; book(4, 2) = 1",
                "gather(0, 1, 1, false) = 0; meanSignatures() = 0.5; book(4, 2) = 2; meanSignatures() = 0.3333333333333333",
                "gather(1, 1, 1, false) = 0; meanSignatures() = 0.6666666666666666");
    }
}
