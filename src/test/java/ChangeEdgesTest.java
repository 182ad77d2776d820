/** The edges of undo, save and restore, of promises 40 to 42: each call that can be undone, and how many of them. */
public final class ChangeEdgesTest {
    private static final String GLUED = Steps.SEWN + "glue(0, 1) = 8; ";
    private static final String PRESSED = GLUED + "press(0, 0) = 1; ";
    private static final String BOUND = "book(4, 2) = 0; gather(0, 2, 1, true) = 0; " + Steps.TO_BIND;
    private static final String NO_MORE = "undo() = throws IllegalStateException; ";

    // What comes before, the call that succeeds, and one of the same method that is refused or fails then.
    private static final String[][] CHANGES = {
        {"", "book(96, 5)", "book(97, 5)"},
        {"book(4, 2) = 0", "gather(0, 99, 3, true)", "gather(0, 100, 3, true)"},
        {Steps.TWELVE, "move(0, 0, 11)", "move(0, 0, 12)"},
        {Steps.TWELVE, "drop(0, 0)", "drop(0, 12)"},
        {"spool(1) = 101", "spool(200)", "spool(201)"},
        {Steps.TWELVE, "sew(0)", "sew(1)"},
        {Steps.SEWN, "unpick(0)", "unpick(1)"},
        {Steps.SEWN, "glue(0, 2)", "glue(0, 3)"},
        {GLUED, "press(0, 1)", "press(0, 2)"},
        {PRESSED + "pass(8) = 0", "lift(0)", "lift(1)"},
        {BOUND, "slip(0, 3)", "slip(0, 4)"},
        {BOUND + "slip(0, 0) = 1; slip(0, 1) = 2; slip(0, 3) = 3", "deliver(0)", "deliver(1)"},
        {GLUED, "pass(60)", "pass(61)"},
        {GLUED + "type(\"w8;s0;l01;p01;w8;t1;d0\")", "commands()", "commands()"},
    };

    public static void main(String[] args) {
        for (String[] change : CHANGES) undoneAndRestored(change[0], change[1], change[2]);
        sameAgain();
        noChanges();
        latestEight();
        roundTheSlots();
        whatStays();
        snapshot();
        Script.finish("ChangeEdgesTest");
    }

    private static void undoneAndRestored(String before, String call, String refused) {
        Script.run("changes, " + call + " can be undone", before, "save(); " + call + "; undo()");
        BookBindery bindery = new BookBindery();
        Script.carryOut(bindery, before);
        State old = new State(bindery);
        int kept = Math.min(bindery.account(11) + 1, 8);
        bindery.save();
        String answer = Script.answer(bindery, call);
        State changed = new State(bindery);
        if (answer.startsWith("throws") || changed.undoable.equals(old.undoable)) {
            Script.tell(call + " answered " + answer + " and did not change anything");
        }
        Script.due(call + ", then account(11)", bindery.account(11), kept);
        String wrongAnswer = Script.answer(bindery, refused);
        if (!wrongAnswer.startsWith("throws")) Script.tell(refused + " answered " + wrongAnswer);
        Script.due(refused + ", then the state", new State(bindery).undoable, changed.undoable);
        Script.due(refused + ", then account(11)", bindery.account(11), kept);
        Script.due(call + ", then undo()", bindery.undo(), kept - 1);
        Script.due(call + ", then undo(), then the state", new State(bindery).undoable, old.undoable);
        Script.carryOut(bindery, "book(4, 2); spool(3); pass(2); restore()");
        Script.due(call + ", then restore(), then the state", new State(bindery).undoable, old.undoable);
        Script.due(call + ", then restore(), then account(11)", bindery.account(11), 0);
        Script.due(call + ", then restore(), then undo()", Script.answer(bindery, "undo()"), "throws IllegalStateException");
    }

    private static void sameAgain() {
        Script.run("changes, a successful move to the same place is one",
                "book(4, 2) = 0; gather(0, 1, 1, false) = 0; move(0, 0, 0) = 0; account(11) = 3; undo() = 2",
                "bookOf(0, 3) = 1");
        Script.run("changes, a successful spool of which all is lost is one",
                Script.times(5, "spool(200)"),
                "spool(1) = 999; account(11) = 6; undo() = 5; account(2) = 999; undo() = 4; account(2) = 900");
    }

    private static void noChanges() {
        Script.run("changes, to append is none",
                "spool(1) = 101; append('w') = 1; account(11) = 1; undo() = 0; account(12) = 1; account(2) = 100");
        Script.run("changes, to write a line is none",
                "book(4, 2) = 0; line(0) = 2; account(11) = 1; undo() = 0; shown() = \"0:\"");
        Script.run("changes, to save is none", "spool(1) = 101; save() = 0; account(11) = 1; undo() = 0; account(2) = 100");
        Script.run("changes, to undo is none",
                "spool(1) = 101; spool(1) = 102; undo() = 1; undo() = 0; account(2) = 100; " + NO_MORE);
        Script.run("changes, to restore is none", "save() = 0; spool(1) = 101; restore() = 0; account(11) = 0; " + NO_MORE);
        Script.run("changes, what is refused is none", "spool(0) = refused 1 0; account(11) = 0; " + NO_MORE);
        Script.run("changes, a text with a fault is none",
                "type(\"w1;\"); commands() = throws IllegalArgumentException; account(11) = 0; " + NO_MORE);
        Script.run("promise 40, there is none: a new object", NO_MORE + "account(11) = 0");
        Script.run("promise 40, there is none: all are undone",
                "spool(1) = 101; undo() = 0; " + NO_MORE + NO_MORE + "spool(2) = 102; undo() = 0; account(2) = 100");
    }

    private static void latestEight() {
        Script.run("changes, each of the latest 8: 7 calls",
                Script.times(7, "spool(1)"), "account(11) = 7", Script.times(6, "undo()"),
                "undo() = 0; account(2) = 100; " + NO_MORE);
        Script.run("changes, each of the latest 8: 8 calls",
                Script.times(8, "spool(1)"), "account(11) = 8", Script.times(7, "undo()"),
                "undo() = 0; account(2) = 100; " + NO_MORE);
        Script.run("changes, each of the latest 8: 9 calls",
                Script.times(9, "spool(1)"), "account(11) = 8", Script.times(7, "undo()"),
                "undo() = 0; account(2) = 101; " + NO_MORE);
        Script.run("changes, each of the latest 8: 10 calls",
                Script.times(10, "spool(1)"), "account(11) = 8", Script.times(7, "undo()"),
                "undo() = 0; account(2) = 102; " + NO_MORE);
        Script.run("changes, what there was before each",
                "spool(1); spool(2); spool(4); spool(8); spool(16); spool(32); spool(64); spool(128) = 355; undo() = 7",
                "account(2) = 227; undo() = 6; account(2) = 163",
                "undo() = 5; account(2) = 131; undo() = 4; account(2) = 115; undo() = 3; account(2) = 107; undo() = 2",
                "account(2) = 103; undo() = 1; account(2) = 101; undo() = 0; account(2) = 100");
        Script.run("changes, the ninth is forgotten also after one was undone",
                Script.times(9, "spool(1)"), "undo() = 7; spool(1) = 109; account(11) = 8; spool(1) = 110; account(11) = 8",
                Script.times(7, "undo()"), "undo() = 0; account(2) = 102");
        Script.run("changes, what was undone does not come back",
                "spool(1) = 101; undo() = 0; spool(2) = 102; undo() = 0; account(2) = 100; " + NO_MORE);
    }

    /** More changes than are kept, over and over, so that what is kept is written over more than once. */
    private static void roundTheSlots() {
        for (int ahead = 1; ahead <= 40; ahead++) {
            BookBindery bindery = new BookBindery();
            for (int call = 0; call < ahead; call++) bindery.pass(1);
            for (int left = Math.min(ahead, 8) - 1; left >= 0; left--) {
                // A refused call between two that are undone must not write over what is kept.
                Script.due("a refused call", Script.answer(bindery, "pass(0)"), "throws UnsupportedOperationException");
                Script.due("undo() after " + ahead + " changes", bindery.undo(), left);
            }
            Script.due("the minute after " + ahead + " changes", bindery.account(0), Math.max(0, ahead - 8));
            Script.due("undo() when none is left", Script.answer(bindery, "undo()"), "throws IllegalStateException");
        }
    }

    private static void whatStays() {
        Script.run("changes, the text buffer stays when a call is undone",
                "type(\"w1\"); spool(1) = 101; append(';') = 3; undo() = 0; account(12) = 3; append('t') = 4",
                "append('0') = 5; commands() = refused 11 0 1");
        Script.run("changes, the text buffer stays empty when commands are undone",
                "type(\"w1\"); commands() = 1; undo() = 0; account(12) = 0; account(0) = 0");
        Script.run("changes, the text buffer stays when the snapshot is restored",
                "append('w') = 1; save() = 0; append('7') = 2; restore() = 0; account(12) = 2; commands() = 1",
                "account(0) = 7");
        Script.run("changes, the line stays when a call is undone",
                "book(4, 2) = 0; gather(0, 1, 1, false) = 0; line(0) = 6; undo() = 1; shown() = \"0: 1-4\"; undo() = 0",
                "shown() = \"0: 1-4\"");
        Script.run("changes, the line stays when the snapshot is restored",
                "book(4, 2) = 0; save() = 1; gather(0, 1, 1, false) = 0; line(0) = 6; restore() = 1; shown() = \"0: 1-4\"",
                "bookOf(0, 3) = 0");
        Script.run("changes, the snapshot stays when a call is undone",
                "spool(1) = 101; save() = 0; undo() = 0; account(2) = 100; restore() = 0; account(2) = 101");
    }

    private static void snapshot() {
        Script.run("promise 42, there is no snapshot: a new object", "restore() = throws IllegalStateException");
        Script.run("promise 42, there is no snapshot: what can be undone stays",
                "spool(1) = 101; restore() = throws IllegalStateException; account(11) = 1; account(2) = 101; undo() = 0");
        Script.run("promise 41, the number of books: 0 and 6", "save() = 0", Script.times(6, "book(4, 2)"), "save() = 6");
        Script.run("promise 42, the number of books: 0 and 6",
                "save() = 0", Script.times(6, "book(4, 2)"), "restore() = 0; account(3) = 0", Script.times(6, "book(5, 2)"),
                "save() = 6; undo() = 5; restore() = 6; bookOf(5, 0) = 5");
        Script.run("promise 41, in place of an earlier snapshot",
                "spool(1) = 101; save() = 0; spool(1) = 102; save() = 0; spool(1) = 103; restore() = 0; account(2) = 102");
        Script.run("promise 41, of a state that was undone to",
                "spool(1) = 101; spool(1) = 102; undo() = 1; save() = 0; spool(9) = 110; restore() = 0; account(2) = 101");
        Script.run("promise 42, the snapshot is kept: again and again",
                "save() = 0; spool(1) = 101; restore() = 0; account(2) = 100; spool(2) = 102; restore() = 0",
                "account(2) = 100; restore() = 0; account(2) = 100");
        Script.run("promise 42, the snapshot is kept: what is changed after it is not in it",
                Steps.FOUR_GLUED,
                "press(0, 0); save() = 4; press(1, 0); pass(30); restore() = 4; press(2, 0) = 2; drop(3, 0) = refused 4 1",
                "restore() = 4",
                "inPress(0, 0) = 0; inPress(0, 1) = throws NoSuchElementException; bookOf(2, 2) = 1; bookOf(2, 8) = 15");
        Script.run("promise 42, another book at the number of one that was saved",
                "book(8, 3) = 0; save() = 1; undo() = 0; book(5, 2) = 0; restore() = 1; bookOf(0, 0) = 8; bookOf(0, 1) = 3");
        Script.run("promise 42, books and stacks that were written over since",
                "book(7, 3) = 0; book(8, 2) = 1; gather(0, 1, 1, false); gather(1, 1, 1, false); sew(0); sew(1)",
                "glue(0, 0); glue(1, 1); press(0, 1); press(1, 1)",
                "save() = 2; pass(8); lift(1) = 1; undo(); undo(); undo(); undo(); undo(); undo(); undo(); undo()",
                "undo() = throws IllegalStateException; account(4) = 0; restore() = 2",
                "bookOf(0, 0) = 7; bookOf(0, 1) = 3; inPress(1, 0) = 0; inPress(1, 1) = 1; readyIn(1) = 30; account(11) = 0");
        Script.run("promise 40, a stack that was written over since",
                Steps.FOUR_GLUED, "press(0, 0); press(1, 0); pass(8); lift(0) = 1; press(2, 0) = 2; undo() = 7; undo() = 6",
                "inPress(0, 1) = 1; inPress(0, 0) = 0");
        Script.run("changes, restore forgets what was kept: 8 calls",
                Script.times(9, "spool(1)"),
                "save() = 0; account(11) = 8; restore() = 0; account(11) = 0; " + NO_MORE,
                "spool(1) = 110; account(11) = 1; undo() = 0; account(2) = 109; " + NO_MORE);
        Script.run("changes, save forgets nothing",
                Script.times(8, "spool(1)"), "save() = 0; account(11) = 8; undo() = 7; account(2) = 107");
        Script.run("promise 41, the changes are not saved",
                "spool(1) = 101; save() = 0; spool(1) = 102; restore() = 0; " + NO_MORE + "account(2) = 101");
    }
}
