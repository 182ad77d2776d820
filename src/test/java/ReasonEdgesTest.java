/** Why something is refused: of each method, the reason that comes first, the edge of each detail, and no such book. */
public final class ReasonEdgesTest {
    private static final String BOUND = "book(6, 2) = 0; gather(0, 1, 2, false) = 0; " + Steps.TO_BIND;
    // The spool is empty, and the four signatures of the book 0 are sewn.
    private static final String NO_THREAD = "book(96, 5) = 0; " + Script.times(4, "gather(0, 1, 3, false)")
            + "spool(5) = 105; sew(0) = 75; sew(0) = 50; sew(0) = 25; sew(0) = 0; ";

    public static void main(String[] args) {
        noSuchBook();
        otherStage();
        gathering();
        sewing();
        gluing();
        pressing();
        delivering();
        counts();
        kept();
        commandIndex();
        Script.finish("ReasonEdgesTest");
    }

    private static void noSuchBook() {
        String[] calls = {"gather(%d, 0, 0, false)", "move(%d, -1, -1)", "drop(%d, -1)", "sew(%d)", "unpick(%d)",
            "glue(%d, 3)", "press(%d, 2)", "slip(%d, -1)", "deliver(%d)"};
        for (String call : calls) {
            for (int number : new int[] {-1, 1, 5, 6, Integer.MIN_VALUE, Integer.MAX_VALUE}) {
                Script.run("reason 3, no such book, ahead of all other reasons: " + call,
                        "book(4, 2) = 0; " + String.format(call, number) + " = refused 3 " + number);
            }
            Script.run("reason 3, no such book, there are none: " + call, String.format(call, 0) + " = refused 3 0");
            Script.run("reason 3, no such book behind the sixth: " + call,
                    Script.times(6, "book(4, 2)"), String.format(call, 6) + " = refused 3 6");
        }
    }

    /** A book of 12 signatures at each stage, and numbers for which a later reason would apply too. */
    private static void otherStage() {
        String[] loose = {"gather(0, 0, 4, true)", "gather(0, 1, 1, true)", "move(0, 12, -1)", "drop(0, 12)", "sew(0)",
            "unpick(0)", "glue(0, 1)"};
        String[] bound = {"slip(0, 48)", "slip(0, -1)", "deliver(0)"};
        String toSewn = Steps.TWELVE + Script.times(12, "sew(0)");
        String[] stages = {toSewn, toSewn + "glue(0, 1); ", toSewn + "glue(0, 1); press(0, 0); ",
            toSewn + Steps.SEWN_TO_BOUND, toSewn + Steps.SEWN_TO_BOUND + "deliver(0) = 6; "};
        for (int stage = 0; stage <= 4; stage++) {
            String refused = " = refused 4 " + stage + "; ";
            if (stage != 0) Script.run("reason 4, for a gathered book only, at " + stage,
                    stages[stage], String.join(refused, loose) + refused);
            if (stage != 3) Script.run("reason 4, for a bound book only, at " + stage,
                    stages[stage], String.join(refused, bound) + refused);
            if (stage != 1) Script.run("reason 4, for a glued book only, at " + stage,
                    stages[stage], "press(0, 0)" + refused + "press(0, 1)" + refused);
        }
    }

    private static void gathering() {
        Script.run("promise 2, 1 ahead of 2",
                Script.times(6, "book(4, 2)"),
                "book(3, 2) = refused 1 0; book(4, 6) = refused 1 0; book(96, 5) = refused 2 6");
        Script.run("promise 3, 5 ahead of 1",
                Steps.SEWN, "gather(0, 0, 1, false) = refused 5 1; gather(0, 1, 4, false) = refused 5 1");
        Script.run("promise 3, 5 ahead of 2",
                Steps.TWELVE, "sew(0); gather(0, 1, 1, false) = refused 5 1; gather(0, 0, 0, false) = refused 5 1");
        Script.run("promise 3, 1 ahead of 2",
                Steps.TWELVE, "gather(0, 0, 1, false) = refused 1 0; gather(0, 1, 0, false) = refused 1 0",
                "gather(0, 1, 1, false) = refused 2 12");
        Script.run("promise 4, 5 ahead of 3 for a place",
                Steps.SEWN, "move(0, 1, 0) = refused 5 1; move(0, 0, 1) = refused 5 1; move(0, -1, -1) = refused 5 1");
        Script.run("promise 4, 3 for the one place ahead of the other",
                Steps.TWELVE,
                "move(0, 12, 13) = refused 3 12; move(0, -1, 12) = refused 3 -1; move(0, 11, 12) = refused 3 12");
        Script.run("promise 5, 5 ahead of 3 for the place",
                Steps.SEWN, "drop(0, 1) = refused 5 1; drop(0, -1) = refused 5 1");
    }

    private static void sewing() {
        Script.run("promise 7, 6 ahead of 7: all are sewn, and there is no thread", NO_THREAD, "sew(0) = refused 6 4");
        Script.run("promise 7, 6 ahead of 7: no signature, and there is no thread",
                NO_THREAD, "book(4, 2) = 1; sew(1) = refused 6 0");
        Script.run("promise 7, 4 ahead of 7: there is no thread", NO_THREAD, "glue(0, 1) = 8; sew(0) = refused 4 1");
        Script.run("promise 7, 7 with all that is missing",
                NO_THREAD,
                "unpick(0) = 3; sew(0) = refused 7 25; unpick(0); unpick(0); unpick(0) = 0; sew(0) = refused 7 30");
        Script.run("promise 8, 4 ahead of 6: at each stage all are sewn, so 4 it is",
                Steps.SEWN, "glue(0, 1) = 8; unpick(0) = refused 4 1");
    }

    private static void gluing() {
        Script.run("promise 9, 3 for the book ahead of 3 for the glue",
                "glue(0, 3) = refused 3 0; book(4, 2) = 0; glue(1, -1) = refused 3 1; glue(-2, 3) = refused 3 -2");
        Script.run("promise 9, 3 for the glue ahead of 4",
                Steps.SEWN,
                "glue(0, 1) = 8; glue(0, 3) = refused 3 3; glue(0, -1) = refused 3 -1; glue(0, 2) = refused 4 1");
        Script.run("promise 9, 3 for the glue ahead of 9",
                "book(4, 2) = 0; glue(0, 3) = refused 3 3; glue(0, 2) = refused 9 0");
        Script.run("promise 9, 3 for the glue ahead of 8",
                "book(4, 2) = 0; gather(0, 1, 1, false) = 0; glue(0, 3) = refused 3 3; glue(0, 2) = refused 8 0");
        Script.run("promise 9, 9 and not 8: there is no place", "book(4, 2) = 0; glue(0, 0) = refused 9 0");
    }

    private static void pressing() {
        Script.run("promise 10, 3 for the book ahead of 3 for the press",
                "press(0, 2) = refused 3 0; book(4, 2) = 0; press(1, -1) = refused 3 1; press(-2, 2) = refused 3 -2");
        Script.run("promise 10, 3 for the press ahead of 4",
                "book(4, 2) = 0; press(0, 2) = refused 3 2; press(0, -1) = refused 3 -1; press(0, 1) = refused 4 0");
        Script.run("promise 10, 4 ahead of 2",
                Steps.FOUR_GLUED, "press(0, 0); press(1, 0); press(2, 0); book(4, 2) = 4; press(4, 0) = refused 4 0",
                "press(0, 0) = refused 4 2; press(3, 0) = refused 2 3");
        Script.run("promise 11, 3 ahead of 11", "lift(2) = refused 3 2; lift(1) = refused 11 1");
        Script.run("promise 11, 10 of the top one only",
                Steps.FOUR_GLUED,
                "press(0, 1); press(2, 1); lift(1) = refused 10 15; pass(15); lift(1) = 2; lift(1) = refused 10 15");
    }

    private static void delivering() {
        Script.run("promise 12, 4 ahead of 13",
                "book(4, 2) = 0; gather(0, 2, 1, true) = 0", Steps.TO_BIND,
                "slip(0, 0); slip(0, 1); slip(0, 3); deliver(0) = 0; slip(0, 0) = refused 4 4");
        Script.run("promise 12, 12 of a right one and 13 of a wrong one",
                BOUND, "slip(0, 0) = refused 12 0; slip(0, 7) = 1; slip(0, 7) = refused 13 7");
        Script.run("promise 13, 4 ahead of 14", "book(4, 2) = 0; gather(0, 5, 1, true) = 0; deliver(0) = refused 4 0");
        Script.run("promise 13, 4 ahead of 15", "book(96, 2) = 0; deliver(0) = refused 4 0");
        Script.run("promise 13, 14 ahead of 15",
                "book(96, 2) = 0; gather(0, 2, 1, false) = 0", Steps.TO_BIND,
                "deliver(0) = refused 14 0; slip(0, 0); slip(0, 1); slip(0, 2); deliver(0) = refused 14 3; slip(0, 3)",
                "deliver(0) = refused 15 72");
        Script.run("promise 6, 1", "spool(0) = refused 1 0");
        Script.run("promise 14, 1", "pass(0) = refused 1 0");
    }

    private static void counts() {
        Script.run("reason 2, how many there can be: books, signatures, books in a press",
                Script.times(6, "book(4, 2)"), "book(4, 2) = refused 2 6", Script.times(12, "gather(0, 1, 1, false)"),
                "gather(0, 1, 1, false) = refused 2 12; gather(1, 1, 1, false); gather(2, 1, 1, false)",
                "gather(3, 1, 1, false); gather(4, 1, 1, false)",
                "sew(1); sew(2); sew(3); sew(4); glue(1, 0); glue(2, 0); glue(3, 0); glue(4, 0); press(1, 1); press(2, 1)",
                "press(3, 1); press(4, 1) = refused 2 3");
        Script.run("reason 5, how many: 1 and 12",
                Steps.TWELVE, "sew(0); drop(0, 0) = refused 5 1", Script.times(11, "sew(0)"), "drop(0, 0) = refused 5 12");
        Script.run("reason 6, how many the book has, not how many are sewn",
                Steps.TWELVE, "unpick(0) = refused 6 12", Script.times(12, "sew(0)"), "sew(0) = refused 6 12");
        Script.run("reason 8, the first place: 0 and 11",
                Steps.TWELVE, "glue(0, 0) = refused 8 0", Script.times(11, "sew(0)"), "glue(0, 0) = refused 8 11");
        Script.run("reason 10, how many minutes it still needs: 30 and 1",
                Steps.SEWN, "glue(0, 0); press(0, 1); lift(1) = refused 10 30; pass(29); lift(1) = refused 10 1");
        Script.run("reason 14, the first such position: 0 and the last one",
                "book(15, 2) = 0; gather(0, 1, 3, false)", Steps.TO_BIND, "deliver(0) = refused 14 15",
                "book(4, 2) = 1; gather(1, 5, 1, false)",
                "sew(1); glue(1, 1); press(1, 0); pass(8); lift(0) = 1; deliver(1) = refused 14 0");
        Script.run("reasons 1 and 9, if nothing else is told, the detail is 0",
                "sew(5) = refused 3 5; spool(0) = refused 1 0; sew(5) = refused 3 5; pass(61) = refused 1 0",
                "sew(5) = refused 3 5",
                "book(97, 2) = refused 1 0; book(4, 2) = 0; sew(5) = refused 3 5; gather(0, 0, 1, false) = refused 1 0",
                "sew(5) = refused 3 5; glue(0, 0) = refused 9 0");
    }

    private static void kept() {
        Script.run("promise 34, nothing was refused: a new object",
                "reason(0) = throws NoSuchElementException; reason(1) = throws NoSuchElementException",
                "reason(2) = throws NoSuchElementException");
        Script.run("promise 34, nothing was refused: other exceptions are no refusals",
                "bookOf(0, 0) = throws IndexOutOfBoundsException; reason(3) = throws IllegalArgumentException",
                "ranked(0) = throws NoSuchElementException",
                "meanSignatures() = throws ArithmeticException; undo() = throws IllegalStateException",
                "commands() = throws IllegalArgumentException; reason(0) = throws NoSuchElementException");
        Script.run("promise 34, the latest one, in place of the one before",
                "lift(1) = refused 11 1; sew(0) = refused 3 0; reason(0) = 3; reason(1) = 0; lift(0) = refused 11 0",
                "reason(0) = 11");
        Script.run("promise 34, it stays when a later call succeeds",
                "lift(1) = refused 11 1; book(4, 2) = 0; reason(0) = 11; reason(1) = 1");
        Script.run("changes, it stays when a call is undone",
                "book(4, 2) = 0; lift(1) = refused 11 1; undo() = 0; reason(0) = 11; reason(1) = 1");
        Script.run("changes, it is not undone: one of before the call",
                "lift(1) = refused 11 1; book(4, 2) = 0; sew(0) = refused 6 0; undo() = 0; reason(0) = 6");
        Script.run("changes, it is not saved",
                "lift(1) = refused 11 1; save() = 0; sew(0) = refused 3 0; restore() = 0; reason(0) = 3");
        Script.run("changes, it stays when a text is refused whole",
                "book(4, 2) = 0; type(\"g0@1:1;s1\"); commands() = refused 3 1 1; bookOf(0, 3) = 0; reason(0) = 3",
                "reason(1) = 1; reason(2) = 1");
    }

    private static void commandIndex() {
        Script.run("reasons, the index of the command: the first one", "type(\"s0\"); commands() = refused 3 0 0");
        Script.run("reasons, the index of the command: the last one of 20",
                "type(\"" + "w1;".repeat(19) + "w0\"); commands() = refused 1 0 19; account(0) = 0");
        Script.run("reasons, the index of the command: the first one that is refused, not a later one",
                "type(\"w1;s7;t0;d9\"); commands() = refused 3 7 1");
        Script.run("reasons, 0 for another call", "type(\"w1;w1;s7\"); commands() = refused 3 7 2; sew(7) = refused 3 7 0");
        Script.run("reasons, 0 for another call after a text that was carried out",
                "type(\"w1;w1;w1\"); commands() = 3; sew(7) = refused 3 7 0");
        Script.run("reasons, the index begins at 0 in the next text",
                "type(\"w1;w1;s7\"); commands() = refused 3 7 2; type(\"w1;s8\"); commands() = refused 3 8 1");
        Script.run("reasons, a text with a fault leaves it",
                "type(\"w1;s7\"); commands() = refused 3 7 1; type(\"w\"); commands() = throws IllegalArgumentException",
                "reason(2) = 1; reason(1) = 7");
    }
}
