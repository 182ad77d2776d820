/** The edges of what a bindery is asked: the numbers that are none, of promises 15 to 39, and the ends of what there is. */
public final class AskEdgesTest {
    private static final String NO_INDEX = " = throws IndexOutOfBoundsException; ";
    private static final String NO_ARGUMENT = " = throws IllegalArgumentException; ";
    private static final String NO_ELEMENT = " = throws NoSuchElementException; ";
    private static final int LEAST = Integer.MIN_VALUE;
    private static final int MOST = Integer.MAX_VALUE;

    // What is asked of a book, with a place or position 0 that the book has.
    private static final String[] OF_A_BOOK = {"bookOf(%d, 0)", "signatureOf(%d, 0, 0)", "pageAt(%d, 0)", "wrong(%d)",
        "wrongAgain(%d)", "firstWrong(%d)", "missing(%d)", "missingPage(%d, 0)", "twice(%d)", "rightPlace(%d, 0)",
        "threadFor(%d)", "hasSlip(%d, 0)", "line(%d)", "rightShare(%d)"};
    private static final String[] OF_A_PRESS = {"inPress(%d, 0)", "readyIn(%d)", "readyAgain(%d)"};

    public static void main(String[] args) {
        noSuchBook();
        noSuchPress();
        noSuchNumber();
        noSuchPlace();
        noSuchPosition();
        rightPlace();
        ranked();
        lines();
        shares();
        accounts();
        secondWay();
        latestCall();
        Script.finish("AskEdgesTest");
    }

    private static String each(String call, String answer, int... numbers) {
        StringBuilder steps = new StringBuilder();
        for (int number : numbers) steps.append(String.format(call, number)).append(answer);
        return steps.toString();
    }

    private static void noSuchBook() {
        String six = Script.times(6, "book(8, 2)");
        StringBuilder filled = new StringBuilder(six);
        for (int book = 0; book < 6; book++) filled.append("gather(").append(book).append(", 2, 1, false) = 0; ");
        for (String call : OF_A_BOOK) {
            Script.run("no such book: there are none, " + call, each(call, NO_INDEX, 0, 1, -1, LEAST, MOST));
            Script.run("no such book: there is one, " + call,
                    "book(8, 2) = 0; gather(0, 2, 1, false) = 0", each(call, "; ", 0),
                    each(call, NO_INDEX, 1, -1, 5, 6, LEAST, MOST));
            Script.run("no such book: there are six, " + call, filled.toString(), each(call, "; ", 0, 1, 2, 3, 4, 5),
                    each(call, NO_INDEX, 6, 7, -1, LEAST, MOST));
            Script.run("no such book: it was undone, " + call,
                    "book(8, 2) = 0; gather(0, 2, 1, false) = 0; undo() = 1; undo() = 0", each(call, NO_INDEX, 0));
            Script.run("no such book: it was not saved, " + call,
                    "save() = 0; book(8, 2) = 0; gather(0, 2, 1, false) = 0; restore() = 0", each(call, NO_INDEX, 0));
        }
    }

    private static void noSuchPress() {
        for (String call : OF_A_PRESS) {
            Script.run("no such press: both are empty, " + call,
                    each(call, NO_ELEMENT, 0, 1), each(call, NO_INDEX, -1, 2, LEAST, MOST));
            Script.run("no such press: both are full, " + call,
                    Steps.FOUR_GLUED, "press(0, 0); press(1, 1)", each(call, "; ", 0, 1),
                    each(call, NO_INDEX, -1, 2, 3, LEAST, MOST));
        }
        Script.run("promise 27, no press ahead of no place",
                "inPress(2, 0)" + NO_INDEX + "inPress(-1, -1)" + NO_INDEX + "inPress(2, 9)" + NO_INDEX);
    }

    private static void noSuchNumber() {
        String one = "book(8, 2) = 0; gather(0, 1, 1, false) = 0; lift(0) = refused 11 0; ";
        Script.run("promise 15, what from 0 to 8",
                one, each("bookOf(0, %d)", "; ", 0, 8), each("bookOf(0, %d)", NO_ARGUMENT, -1, 9, LEAST, MOST));
        Script.run("promise 16, what from 0 to 4",
                one, each("signatureOf(0, 0, %d)", "; ", 0, 4),
                each("signatureOf(0, 0, %d)", NO_ARGUMENT, -1, 5, LEAST, MOST));
        Script.run("promise 34, what from 0 to 2",
                one, each("reason(%d)", "; ", 0, 2), each("reason(%d)", NO_ARGUMENT, -1, 3, LEAST, MOST));
        Script.run("promise 39, what from 0 to 12",
                one, each("account(%d)", "; ", 0, 12), each("account(%d)", NO_ARGUMENT, -1, 13, LEAST, MOST));
        Script.run("promise 15, no book ahead of what is asked",
                each("bookOf(0, %d)", NO_INDEX, -1, 0, 9), "book(4, 2) = 0; " + each("bookOf(1, %d)", NO_INDEX, -1, 9));
        Script.run("promise 16, no book ahead of what is asked", each("signatureOf(0, 0, %d)", NO_INDEX, -1, 0, 5));
        Script.run("promise 16, no place ahead of what is asked",
                one, each("signatureOf(0, 1, %d)", NO_INDEX, -1, 5) + each("signatureOf(0, -1, %d)", NO_INDEX, -1, 5));
        Script.run("promise 34, what is asked ahead of that nothing was refused",
                each("reason(%d)", NO_ARGUMENT, -1, 3) + each("reason(%d)", NO_ELEMENT, 0, 1, 2));
        Script.run("promise 15, what is asked ahead of nothing else: a book without signatures",
                "book(4, 2) = 0; " + each("bookOf(0, %d)", NO_ARGUMENT, -1, 9));
    }

    private static void noSuchPlace() {
        for (String call : new String[] {"signatureOf(0, %d, 0)", "rightPlace(0, %d)"}) {
            Script.run("no such place: a book without signatures, " + call,
                    "book(4, 2) = 0; " + each(call, NO_INDEX, 0, 1, -1, LEAST, MOST));
            Script.run("no such place: behind one signature, " + call,
                    "book(4, 2) = 0; gather(0, 1, 1, false) = 0", each(call, "; ", 0), each(call, NO_INDEX, 1, 11, 12, -1));
            Script.run("no such place: behind 12 signatures, " + call,
                    Steps.TWELVE, each(call, "; ", 0, 11), each(call, NO_INDEX, 12, -1, LEAST, MOST));
            Script.run("no such place: dropped, " + call,
                    Steps.TWELVE, "drop(0, 5) = 11; " + each(call, "; ", 10) + each(call, NO_INDEX, 11));
        }
        Script.run("promise 16, the position at which it begins: the first one",
                Steps.TWELVE,
                "signatureOf(0, 0, 4) = 0; signatureOf(0, 11, 4) = 44; drop(0, 0) = 11; signatureOf(0, 0, 4) = 0");
        Script.run("promise 22, behind the last missing page",
                "book(8, 2) = 0; gather(0, 1, 1, false) = 0; missingPage(0, 3) = 8; missingPage(0, 4)" + NO_ELEMENT);
        Script.run("promise 22, no book ahead of no place",
                "missingPage(0, -1)" + NO_INDEX + "book(4, 2) = 0; missingPage(1, 4)" + NO_INDEX,
                "missingPage(0, 4)" + NO_ELEMENT);
    }

    private static void noSuchPosition() {
        for (String call : new String[] {"pageAt(0, %d)", "hasSlip(0, %d)"}) {
            Script.run("no such position: a book without any, " + call,
                    "book(4, 2) = 0; " + each(call, NO_INDEX, 0, -1, LEAST, MOST));
            Script.run("no such position: behind 4, " + call,
                    "book(96, 2) = 0; gather(0, 9, 1, true) = 0", each(call, "; ", 0, 3),
                    each(call, NO_INDEX, 4, -1, LEAST, MOST));
            Script.run("no such position: behind 192, " + call,
                    "book(4, 2) = 0", Script.times(12, "gather(0, 9, 3, true)"), each(call, "; ", 0, 191),
                    each(call, NO_INDEX, 192, 193, -1, LEAST, MOST));
            Script.run("no such position: dropped, " + call,
                    Steps.TWELVE, "drop(0, 0) = 11; " + each(call, "; ", 43) + each(call, NO_INDEX, 44));
        }
    }

    private static void rightPlace() {
        Script.run("promise 24, the only one", "book(4, 2) = 0; gather(0, 99, 3, true) = 0; rightPlace(0, 0) = 0");
        Script.run("promise 24, all with the same first page, by their places",
                "book(4, 2) = 0; gather(0, 5, 1, false); gather(0, 5, 3, true); gather(0, 5, 2, false)",
                "rightPlace(0, 0) = 0; rightPlace(0, 1) = 1; rightPlace(0, 2) = 2");
        Script.run("promise 24, upside down",
                "book(4, 2) = 0; gather(0, 99, 1, false); gather(0, 50, 1, false); gather(0, 1, 1, false)",
                "rightPlace(0, 0) = 2; rightPlace(0, 1) = 1; rightPlace(0, 2) = 0");
        Script.run("promise 24, the first pages, not the last ones nor those that come first",
                "book(4, 2) = 0; gather(0, 2, 1, false); gather(0, 1, 3, true)",
                "rightPlace(0, 0) = 1; rightPlace(0, 1) = 0");
        Script.run("promise 24, the last of 12",
                Steps.TWELVE, "rightPlace(0, 11) = 11; move(0, 11, 0); rightPlace(0, 0) = 11; rightPlace(0, 11) = 10");
    }

    private static void ranked() {
        Script.run("promise 30, no books", each("ranked(%d)", NO_ELEMENT, 0, -1, LEAST, MOST));
        Script.run("promise 30, one book",
                "book(4, 2) = 0; ranked(0) = 0; " + each("ranked(%d)", NO_ELEMENT, 1, -1, LEAST, MOST));
        Script.run("promise 30, six books",
                Script.times(6, "book(4, 2)"),
                "ranked(0) = 0; ranked(5) = 5; " + each("ranked(%d)", NO_ELEMENT, 6, -1, LEAST, MOST));
        Script.run("promise 30, one wrong position more outweighs all missing pages",
                "book(96, 2) = 0; book(7, 2) = 1; gather(1, 1, 2, false); missing(0) = 96; missing(1) = 0",
                "wrong(1) = 1; ranked(0) = 1; ranked(1) = 0");
        Script.run("promise 30, of several the one with one more missing page",
                "book(5, 2) = 0; book(6, 2) = 1; book(5, 2) = 2; ranked(0) = 1; ranked(1) = 0; ranked(2) = 2");
        Script.run("promise 30, of these the lowest one",
                "book(4, 2) = 0; book(4, 3) = 1; gather(1, 2, 1, false); gather(0, 2, 1, false); ranked(0) = 0",
                "ranked(1) = 1");
        Script.run("promise 30, 192 wrong positions",
                "book(96, 2) = 0; book(96, 2) = 1; gather(0, 1, 1, false)", Script.times(12, "gather(1, 50, 3, false)"),
                "wrong(1) = 192; ranked(0) = 1; ranked(1) = 0");
    }

    private static void lines() {
        Script.run("promise 36, the line is empty at first",
                "book(4, 2) = 0; " + each("character(%d)", NO_INDEX, 0, -1, LEAST, MOST));
        Script.run("promise 36, the first and the last character, and those beside them",
                "book(4, 2) = 0; gather(0, 1, 1, true) = 0; line(0) = 7; character(0) = 0; character(6) = !",
                each("character(%d)", NO_INDEX, 7, -1, LEAST, MOST));
        Script.run("promise 35, a book without signatures", "book(4, 2) = 0; line(0) = 2; shown() = \"0:\"");
        Script.run("promise 35, the number of the book", Script.times(6, "book(4, 2)"), "line(5) = 2; shown() = \"5:\"");
        Script.run("promise 35, pages of 1, 2 and 3 digits",
                "book(4, 2) = 0; gather(0, 6, 1, false); gather(0, 7, 1, false); gather(0, 96, 1, false)",
                "gather(0, 97, 1, false)", "line(0) = 24; shown() = \"0: 6-9 7-10 96-99 97-100\"");
        Script.run("promise 35, turned and sewn",
                "book(4, 2) = 0; gather(0, 1, 1, true); gather(0, 1, 1, true); sew(0); line(0) = 13",
                "shown() = \"0: 1-4!s 1-4!\"");
        Script.run("promise 35, in place of the line before: a shorter one",
                Steps.TWELVE, "book(4, 2) = 1; line(0); line(1) = 2; shown() = \"1:\"; character(2)" + NO_INDEX);
        Script.run("promise 35, no such book: the line stays",
                Steps.SEWN, "line(0) = 7; line(1)" + NO_INDEX + "line(-1)" + NO_INDEX + "shown() = \"0: 1-4s\"");
        Script.run("promise 36, the line does not follow the book",
                Steps.SEWN, "line(0) = 7; unpick(0); drop(0, 0); shown() = \"0: 1-4s\"");
    }

    private static void shares() {
        Script.run("promise 37, no positions", "book(4, 2) = 0; rightShare(0) = throws ArithmeticException");
        Script.run("promise 37, no book ahead of no positions",
                "rightShare(0)" + NO_INDEX + "book(4, 2) = 0; rightShare(1)" + NO_INDEX + "rightShare(-1)" + NO_INDEX);
        Script.run("promise 37, none is right", "book(4, 2) = 0; gather(0, 5, 1, false); rightShare(0) = 0.0");
        Script.run("promise 37, all are right", "book(4, 2) = 0; gather(0, 1, 1, false); rightShare(0) = 1.0");
        Script.run("promise 37, one of 192",
                "book(96, 2) = 0; gather(0, 2, 3, true) = 0", Script.times(11, "gather(0, 50, 3, false)"),
                "wrong(0) = 191; rightShare(0) = " + 1f / 192f);
        Script.run("promise 38, no books",
                "meanSignatures() = throws ArithmeticException; book(4, 2) = 0; undo() = 0",
                "meanSignatures() = throws ArithmeticException");
        Script.run("promise 38, books without signatures", "book(4, 2) = 0; book(4, 2) = 1; meanSignatures() = 0.0");
        Script.run("promise 38, a whole number", Steps.TWELVE, "meanSignatures() = 12.0");
        Script.run("promise 38, as doubles",
                Steps.TWELVE, "book(4, 2); book(4, 2); gather(1, 1, 1, true); meanSignatures() = 4.333333333333333");
    }

    private static void accounts() {
        Script.run("promise 39, the account 4: only those in presses now",
                Steps.SEWN,
                "account(4) = 0; glue(0, 1); account(4) = 0; press(0, 0); account(4) = 1; pass(8); account(4) = 1; lift(0)",
                "account(4) = 0");
        Script.run("promise 39, the account 5: only those that are delivered",
                Steps.SEWN, Steps.SEWN_TO_BOUND, "account(5) = 0; deliver(0); account(5) = 1; account(3) = 1");
        Script.run("promise 39, the account 6: of all books, dropped ones not",
                Steps.TWELVE, "book(4, 2) = 1; gather(1, 1, 1, false); account(6) = 13; drop(0, 0); account(6) = 12");
        Script.run("promise 39, the account 7: unpicked thread too",
                Steps.SEWN, "unpick(0); sew(0); account(7) = 22; account(2) = 78");
        Script.run("promise 39, the account 7: a refused sewing not", Steps.SEWN, "sew(0) = refused 6 1; account(7) = 11");
        Script.run("promise 39, the account 8: those of books that are gathered again included",
                Steps.SEWN, "unpick(0); account(8) = 1; sew(0); glue(0, 1); pass(8) = 1; account(8) = 2");
        Script.run("promise 39, the account 9: of all books",
                "book(4, 2) = 0; gather(0, 5, 1, false)", Steps.TO_BIND,
                "slip(0, 0); book(4, 2) = 1; gather(1, 5, 1, false); sew(1); glue(1, 1); press(1, 0); pass(8)",
                "lift(0) = 1; slip(1, 0) = 1; account(9) = 2; bookOf(0, 6) = 1");
        Script.run("promise 39, the account 10: coins for missing pages are not in it",
                "book(17, 2) = 0; gather(0, 1, 3, false)", Steps.TO_BIND,
                "deliver(0) = 2; account(10) = 2; account(1) = 21");
        Script.run("promise 39, the account 11: 8 at most",
                Script.times(8, "pass(1)"), "account(11) = 8; pass(1) = 0; account(11) = 8");
        Script.run("promise 39, the account 12: empty, 60, and empty again",
                "account(12) = 0; type(\"" + "x".repeat(60) + "\"); account(12) = 60",
                "commands()" + NO_ARGUMENT + "account(12) = 0");
    }

    /** Each first page, fold and side, behind each of some beginnings, against the rule of the terms. */
    private static void secondWay() {
        for (int fold = 0; fold <= 3; fold++) {
            int start = fold == 0 ? 0 : 2 << fold;
            for (int pages : new int[] {4, 5, 9, 16, 17, 31, 32, 96}) {
                for (int first = 1; first <= 99; first++) {
                    for (int second = 0; second < 6; second++) compareWays(fold, start, pages, first, second % 3 + 1, second > 2);
                }
            }
        }
    }

    private static void compareWays(int foldBefore, int start, int pages, int first, int fold, boolean isTurned) {
        BookBindery bindery = new BookBindery();
        bindery.book(pages, 2);
        int wrong = 0;
        if (start > 0) {
            bindery.gather(0, 1, foldBefore, false);
            wrong = Math.max(0, start - pages);
        }
        bindery.gather(0, first, fold, isTurned);
        int size = 2 << fold;
        for (int index = 0; index < size; index++) {
            int page = isTurned ? first + size - 1 - index : first + index;
            if (page != start + index + 1 || page > pages) wrong++;
        }
        String what = "behind " + start + " positions of " + pages + " planned pages, first " + first + ", fold " + fold
                + ", turned " + isTurned;
        Script.due("promise 18, " + what, bindery.wrong(0), wrong);
        Script.due("promise 19, " + what, bindery.wrongAgain(0), wrong);
    }

    /** Without looking at the state in between, so that the last call is the 512th one. */
    private static void latestCall() {
        BookBindery bindery = new BookBindery();
        for (int call = 1; call <= 510; call++) bindery.pass(60);
        Script.due("the 511th call", bindery.undo(), 7);
        Script.due("the 512th call", bindery.account(0), 509 * 60);
        BookBindery other = new BookBindery();
        for (int call = 1; call <= 510; call++) {
            Script.due("call " + call, Script.answer(other, "lift(2)"), "throws UnsupportedOperationException");
        }
        Script.due("the 511th call", other.reason(1), 2);
        Script.due("the 512th call", other.book(96, 5), 0);
    }
}
