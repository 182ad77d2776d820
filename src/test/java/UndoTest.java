/** Promises 40 to 42: undo, save and restore. */
public final class UndoTest {
    public static void main(String[] args) {
        eachChange();
        latestEight();
        whatStays();
        saveAndRestore();
        Script.finish("UndoTest");
    }

    private static void eachChange() {
        Script.run("promise 40, book, gather, move and drop",
                "book(8, 2) = 0; gather(0, 1, 1, true) = 0; gather(0, 5, 1, false) = 1; move(0, 0, 1) = 8; drop(0, 0) = 1",
                "undo() = 4; line(0) = 11; shown() = \"0: 5-8 1-4!\"; undo() = 3; line(0) = 11; shown() = \"0: 1-4! 5-8\"",
                "undo() = 2; line(0) = 7; undo() = 1; line(0) = 2; undo() = 0; account(3) = 0; undo() = throws IllegalStateException");
        Script.run("promise 40, spool, sew, unpick and glue",
                "book(4, 2) = 0; gather(0, 1, 1, false) = 0; spool(50) = 150; sew(0) = 139; unpick(0) = 0; sew(0) = 128; glue(0, 1) = 8",
                "undo() = 6; bookOf(0, 2) = 0; bookOf(0, 7) = -1; bookOf(0, 8) = 0; undo() = 5; account(2) = 139; account(7) = 11",
                "account(8) = 1; undo() = 4; bookOf(0, 4) = 1; account(8) = 0; undo() = 3; account(2) = 150; account(7) = 0; undo() = 2",
                "account(2) = 100");
        Script.run("promise 40, press, pass, lift, slip and deliver",
                "book(4, 2) = 0; gather(0, 3, 1, false) = 0; sew(0); glue(0, 1); press(0, 1) = 1; pass(8) = 0; lift(1) = 0",
                "slip(0, 0) = 1; slip(0, 1) = 2; slip(0, 2) = 3; slip(0, 3) = 4; deliver(0) = 0; account(1) = 18",
                "undo() = 7; account(1) = 20; bookOf(0, 2) = 3; undo() = 6; hasSlip(0, 3) = false; account(9) = 3; undo() = 5; undo() = 4",
                "undo() = 3; hasSlip(0, 0) = false; undo() = 2; bookOf(0, 2) = 2; inPress(1, 0) = 0; undo() = 1; account(0) = 0",
                "readyIn(1) = 8; undo() = 0; bookOf(0, 2) = 1; inPress(1, 0) = throws NoSuchElementException; pass(8) = 1");
        Script.run("promise 40, a book that was lifted lies in its press again, under no other one",
                "book(4, 2) = 0; book(4, 2) = 1; gather(0, 1, 1, false); gather(1, 1, 1, false); sew(0); sew(1); glue(1, 0); glue(0, 1)",
                "press(0, 0) = 1; pass(8) = 0; lift(0) = 0; press(1, 0) = 1; inPress(0, 0) = 1; undo() = 7; undo() = 6",
                "inPress(0, 0) = 0; bookOf(1, 2) = 1; save() = 2; lift(0) = 0; press(1, 0) = 1; restore() = 2; inPress(0, 0) = 0",
                "press(1, 0) = 2; undo() = 0; inPress(0, 1) = throws NoSuchElementException; lift(0) = 0");
        Script.run("promise 40, books that came loose, and a text as one change",
                "book(4, 2) = 0; gather(0, 1, 1, false) = 0; sew(0); glue(0, 1); pass(3) = 0; pass(9) = 1; undo() = 5",
                "bookOf(0, 2) = 1; bookOf(0, 8) = 5; bookOf(0, 4) = 1; account(8) = 0; type(\"p00;w5;t0;d0\"); commands() = 4",
                "undo() = 5; bookOf(0, 2) = 1; bookOf(0, 8) = 5; pass(5) = 1");
    }

    private static void latestEight() {
        Script.run("promise 40, the latest eight", Script.times(12, "spool(1)"), "account(2) = 112; account(11) = 8",
                "undo() = 7; undo() = 6; undo() = 5; account(2) = 109; spool(5) = 114; account(11) = 6; undo() = 5; undo() = 4; undo() = 3",
                "undo() = 2; undo() = 1; undo() = 0; account(2) = 104; undo() = throws IllegalStateException; spool(1) = 105; undo() = 0");
        Script.run("promise 40, refused calls are no changes", Script.times(9, "spool(1)"), Script.times(9, "spool(0) = refused 1 0"),
                Script.times(8, "undo()"), "account(2) = 101; undo() = throws IllegalStateException");
    }

    private static void whatStays() {
        Script.run("promise 40, the text buffer, the fault position, the reason and the line stay",
                "book(4, 2) = 0; type(\"x\"); commands() = throws IllegalArgumentException; sew(7) = refused 3 7; line(0) = 2",
                "type(\"w9\"); undo() = 0; account(12) = 2; faultPosition() = 0; reason(1) = 7; shown() = \"0:\"; commands() = 1",
                "account(0) = 9; undo() = 0; account(12) = 0; faultPosition() = -1");
        Script.run("promises 41 and 42, they stay at restore too",
                "save() = 0; book(4, 2) = 0; type(\"wx\"); commands() = throws IllegalArgumentException; sew(7) = refused 3 7",
                "line(0) = 2; type(\"w9\"); restore() = 0; account(12) = 2; faultPosition() = 1; reason(1) = 7; shown() = \"0:\"",
                "commands() = 1; account(0) = 9");
    }

    private static void saveAndRestore() {
        Script.run("promise 42, no snapshot", "book(4, 2) = 0; restore() = throws IllegalStateException; account(11) = 1; undo() = 0");
        Script.run("promises 41 and 42, the snapshot is kept, and the changes are forgotten",
                "book(4, 2) = 0; gather(0, 5, 1, true) = 0; sew(0); glue(0, 2); press(0, 1); pass(3); save() = 1; account(11) = 6",
                "pass(12) = 0; lift(1) = 0; slip(0, 0) = 1; book(8, 3) = 1; spool(9) = 98; restore() = 1; account(11) = 0",
                "undo() = throws IllegalStateException; bookOf(0, 2) = 2; readyIn(1) = 12; account(0) = 3; account(2) = 89",
                "account(9) = 0; account(3) = 1; hasSlip(0, 0) = false; signatureOf(0, 0, 3) = 1; pass(12) = 0; undo() = 0",
                "pass(12) = 0; lift(1) = 0; book(4, 2) = 1; restore() = 1; bookOf(0, 8) = 12; bookOf(0, 2) = 2");
        Script.run("promises 41 and 42, another book at the number of one that was saved",
                "book(8, 3) = 0; gather(0, 9, 2, true) = 0; save() = 1; undo() = 1; undo() = 0; book(5, 2) = 0; gather(0, 1, 1, false) = 0",
                "restore() = 1; bookOf(0, 0) = 8; bookOf(0, 1) = 3; bookOf(0, 3) = 1; line(0) = 8; shown() = \"0: 9-16!\"",
                "signatureOf(0, 0, 2) = 2");
        Script.run("promises 41 and 42, in place of an earlier snapshot, and not undone",
                "save() = 0; book(4, 2) = 0; save() = 1; undo() = 0; account(3) = 0; restore() = 1; account(3) = 1; book(5, 2) = 1",
                "save() = 2; undo() = 0; account(3) = 1; restore() = 2; bookOf(1, 0) = 5; restore() = 2");
    }
}
