import java.util.ArrayList;
import java.util.List;

/** The edges of texts, of promises 31 to 33: each character behind each beginning of a command, and the ends of the buffer. */
public final class TextEdgesTest {
    private static final String DIGITS = "0123456789";
    private static final String FAULT = "commands() = throws IllegalArgumentException; faultPosition() = ";

    // Beginnings of commands, and the characters that can continue each; ";" is among them where the command can end.
    private static final String[][] BEGINNINGS = {
        {"", "gsulptedw"},
        {"g", DIGITS}, {"g0", "@"}, {"g0@", DIGITS}, {"g0@1", DIGITS + ":"}, {"g0@12", ":"},
        {"g0@1:", DIGITS}, {"g0@12:", DIGITS},
        {"g0@1:1", "!;"}, {"g0@12:1", "!;"}, {"g0@1:1!", ";"}, {"g0@12:1!", ";"},
        {"s", DIGITS}, {"s0", ";"}, {"u", DIGITS}, {"u0", ";"},
        {"l", DIGITS}, {"l0", DIGITS}, {"l00", ";"}, {"p", DIGITS}, {"p0", DIGITS}, {"p00", ";"},
        {"t", DIGITS}, {"t0", ";"},
        {"e", DIGITS}, {"e0", "/"}, {"e0/", DIGITS}, {"e0/1", DIGITS + ";"}, {"e0/12", ";"},
        {"d", DIGITS}, {"d0", ";"}, {"w", DIGITS}, {"w1", DIGITS + ";"}, {"w12", ";"},
    };

    public static void main(String[] args) {
        for (String[] beginning : BEGINNINGS) {
            everyCharacter("", beginning[0], beginning[1]);
            everyCharacter("w1;", beginning[0], beginning[1]);
            everyCharacter("g0@1:1!;e9/99;", beginning[0], beginning[1]);
        }
        buffer();
        asTheMethods();
        allOrNone();
        faultPosition();
        Script.finish("TextEdgesTest");
    }

    private static void everyCharacter(String before, String beginning, String next) {
        String text = before + beginning;
        checkText(text, next.indexOf(';') >= 0 ? -1 : text.length());
        for (char character : characters()) {
            int fault = text.length();
            if (next.indexOf(character) >= 0) fault = canEnd(beginning + character) ? -1 : text.length() + 1;
            checkText(text + character, fault);
            // Whatever comes behind the fault does not change it.
            if (fault == text.length()) checkText(text + character + "w1", fault);
        }
    }

    private static List<Character> characters() {
        List<Character> characters = new ArrayList<>();
        for (char character = 0; character < 256; character++) characters.add(character);
        for (char digit : DIGITS.toCharArray()) characters.add((char) (digit + 256));
        characters.addAll(List.of('\uffff', (char) ('s' + 256), (char) (';' + 65280), '\u0660', '\uff10'));
        return characters;
    }

    private static boolean canEnd(String text) {
        for (String[] beginning : BEGINNINGS) {
            if (isSameForm(beginning[0], text)) return beginning[1].indexOf(';') >= 0;
        }
        return false;
    }

    private static boolean isSameForm(String one, String other) {
        return one.replaceAll("[0-9]", "0").equals(other.replaceAll("[0-9]", "0"));
    }

    /** Looks only at the fault and the buffer: the books of the commands may be there or not. */
    private static void checkText(String text, int fault) {
        BookBindery bindery = new BookBindery();
        for (char character : text.toCharArray()) bindery.append(character);
        boolean isFault = false;
        try {
            bindery.commands();
        } catch (IllegalArgumentException e) {
            isFault = true;
        } catch (UnsupportedOperationException e) {
            isFault = false;
        }
        String what = "promises 32 and 33, the text " + text;
        Script.due(what + ": whether it has a fault", isFault, fault >= 0);
        Script.due(what + ": its position", bindery.faultPosition(), fault);
        Script.due(what + ": the buffer afterwards", bindery.account(12), 0);
        if (isFault) Script.due(what + ": the minute", bindery.account(0), 0);
    }

    private static void buffer() {
        Script.run("promise 31, the first character", "append('w') = 1; account(12) = 1");
        Script.run("promise 31, the 60th character", "type(\"" + "w".repeat(59) + "\"); append('w') = 60; account(12) = 60");
        Script.run("promise 31, a 61st character",
                "type(\"" + "w".repeat(60) + "\"); append('w') = throws IllegalStateException; account(12) = 60");
        Script.run("promise 31, any character counts",
                "append(0) = 1; append(32) = 2; append(10) = 3; append(255) = 4; append(65535) = 5; " + FAULT + "0");
        Script.run("promise 31, a full buffer whose text is carried out",
                "type(\"" + "w1;".repeat(19) + "w10\"); append(';') = throws IllegalStateException",
                "commands() = 20; account(0) = 29");
        Script.run("promise 31, a full buffer whose text ends too early",
                "type(\"" + "w1;".repeat(20) + "\"); append('w') = throws IllegalStateException",
                FAULT + "60; account(0) = 0; append('w') = 1");
        Script.run("promise 31, a full buffer whose fault is its last character",
                "type(\"" + "w1;".repeat(19) + "w1x\"); " + FAULT + "59");
        Script.run("promise 31, a full buffer of commands of one digit",
                "type(\"" + "t1;".repeat(20) + "\"); " + FAULT + "60");
        Script.run("promise 32, the buffer is empty afterwards: carried out",
                "type(\"w1\"); commands() = 1; account(12) = 0; append('w') = 1");
        Script.run("promise 32, the buffer is empty afterwards: refused",
                "type(\"t0\"); commands() = refused 11 0; account(12) = 0; append('w') = 1");
        Script.run("promise 32, the buffer is empty afterwards: with a fault",
                "type(\"w1x\"); " + FAULT + "2; account(12) = 0; append('w') = 1");
        Script.run("promise 32, what was in the buffer does not come back",
                "type(\"w1;w1;w1\"); commands() = 3; type(\"w1\"); commands() = 1; account(0) = 4; type(\"w\"); " + FAULT + "1");
        Script.run("promise 32, an empty text", FAULT + "0; account(12) = 0; account(11) = 0");
    }

    private static void asTheMethods() {
        Script.run("texts, a number that is out of range is no fault: a first page",
                "book(4, 2) = 0; type(\"g0@0:1\"); commands() = refused 1 0; faultPosition() = -1");
        Script.run("texts, a first page of 2 digits: 00, 01 and 99",
                "book(4, 2) = 0; type(\"g0@00:1\"); commands() = refused 1 0; type(\"g0@01:1\"); commands() = 1",
                "type(\"g0@99:1\"); commands() = 1", "signatureOf(0, 0, 0) = 1; signatureOf(0, 1, 0) = 99");
        Script.run("texts, a fold: 0, 1, 3 and 4",
                "book(4, 2) = 0; type(\"g0@1:0\"); commands() = refused 1 0; type(\"g0@1:1\"); commands() = 1",
                "type(\"g0@1:3\"); commands() = 1",
                "type(\"g0@1:4\"); commands() = refused 1 0; bookOf(0, 5) = 20; faultPosition() = -1");
        Script.run("texts, turned with a sign, unturned without one, behind each other",
                "book(4, 2) = 0; type(\"g0@1:1!;g0@1:1;g0@1:1!\"); commands() = 3",
                "signatureOf(0, 0, 3) = 1; signatureOf(0, 1, 3) = 0; signatureOf(0, 2, 3) = 1");
        Script.run("texts, u takes the latest sewing back, and goes no minutes by",
                Steps.SEWN, "type(\"u0\"); commands() = 1; bookOf(0, 4) = 0; account(8) = 1; account(0) = 0; type(\"u0\")",
                "commands() = refused 6 1");
        Script.run("texts, a book: 5, 6 and 9",
                Script.times(6, "book(4, 2)"),
                "type(\"g5@1:1;s5;u5\"); commands() = 3; type(\"s6\"); commands() = refused 3 6; type(\"d9\")",
                "commands() = refused 3 9; faultPosition() = -1");
        Script.run("texts, a glue: 2 and 3",
                Steps.SEWN, "type(\"l03\"); commands() = refused 3 3; type(\"l02\"); commands() = 1; bookOf(0, 7) = 2");
        Script.run("texts, a press: 1 and 2",
                Steps.SEWN,
                "glue(0, 1); type(\"p02\"); commands() = refused 3 2; type(\"p01\"); commands() = 1; inPress(1, 0) = 0",
                "type(\"t2\"); commands() = refused 3 2; type(\"w8;t1\"); commands() = 2");
        Script.run("texts, minutes: 0, 00, 1, 60 and 61",
                "type(\"w0\"); commands() = refused 1 0; type(\"w00\"); commands() = refused 1 0; type(\"w1\")",
                "commands() = 1; type(\"w60\"); commands() = 1",
                "type(\"w61\"); commands() = refused 1 0; type(\"w99\"); commands() = refused 1 0; account(0) = 61",
                "faultPosition() = -1");
        Script.run("texts, a position: 0, 00, 99 and none",
                "spool(200); book(4, 2) = 0", Script.times(7, "gather(0, 50, 3, false)"), Script.times(6, "sew(0)"),
                Steps.TO_BIND, "type(\"e0/0\"); commands() = 1; type(\"e0/00\"); commands() = refused 13 0; type(\"e0/99\")",
                "commands() = 1; hasSlip(0, 99) = true; hasSlip(0, 0) = true",
                "type(\"e0/09;e0/10\"); commands() = 2; hasSlip(0, 9) = true; hasSlip(0, 10) = true; bookOf(0, 6) = 4");
        Script.run("texts, a position that is none",
                "book(4, 2) = 0; gather(0, 5, 1, false) = 0", Steps.TO_BIND,
                "type(\"e0/4\"); commands() = refused 12 4; type(\"e0/3\"); commands() = 1");
        Script.run("texts, the numbers of a command are not those of the one before",
                "book(4, 2) = 0; book(4, 2) = 1; type(\"g1@9:2;g0@1:1;s1;s0\"); commands() = 4; bookOf(0, 4) = 1",
                "bookOf(1, 4) = 1; signatureOf(0, 0, 0) = 1");
        Script.run("texts, minutes that go by in a text gather a book again",
                Steps.SEWN,
                "glue(0, 1); type(\"w7;w1;s0\"); commands() = 3; bookOf(0, 2) = 0; bookOf(0, 4) = 1; account(8) = 1");
    }

    private static void allOrNone() {
        Script.run("texts, none of them: the first one is refused",
                "book(4, 2) = 0; type(\"s0;g0@1:1\"); commands() = refused 6 0 0; bookOf(0, 3) = 0; account(11) = 1");
        Script.run("texts, none of them: the last one is refused",
                "book(4, 2) = 0; type(\"g0@1:1;w5;s0;s0\"); commands() = refused 6 1 3; bookOf(0, 3) = 0; account(0) = 0",
                "account(2) = 100; account(7) = 0");
        Script.run("texts, none of them: a fault behind commands that could be carried out",
                "book(4, 2) = 0; type(\"g0@1:1;w5;x\"); " + FAULT + "10; bookOf(0, 3) = 0; account(0) = 0; account(11) = 1");
        Script.run("texts, a fault ahead of a command that would be refused",
                "type(\"s9;x\"); " + FAULT + "3; reason(0) = throws NoSuchElementException");
        Script.run("texts, a refused text is none of the changes",
                Script.times(8, "spool(1)"), "type(\"w1;w0\"); commands() = refused 1 0 1; account(11) = 8",
                Script.times(7, "undo()"), "undo() = 0; account(2) = 100");
        Script.run("texts, all of them are one change",
                "book(4, 2) = 0; type(\"g0@1:1;s0;l01;p00;w8;t0;d0\"); commands() = 7; account(11) = 2; account(5) = 1",
                "undo() = 1; account(5) = 0; bookOf(0, 3) = 0; account(0) = 0");
        Script.run("texts, presses as they were",
                Steps.FOUR_GLUED,
                "press(1, 0); press(0, 1); type(\"p20;p31;w8;t0\"); commands() = refused 10 7 3; inPress(0, 0) = 1",
                "inPress(0, 1) = throws NoSuchElementException",
                "inPress(1, 1) = throws NoSuchElementException; bookOf(2, 2) = 1; bookOf(1, 8) = 8");
        Script.run("texts, coins and slips as they were",
                "book(12, 2) = 0; gather(0, 1, 2, false) = 0; gather(0, 8, 1, false) = 1; sew(0)", Steps.TO_BIND,
                "type(\"e0/8;e0/9;e0/10;e0/11;d0;d0\"); commands() = refused 4 4 5; bookOf(0, 6) = 0; account(9) = 0",
                "account(1) = 20; account(10) = 0; hasSlip(0, 8) = false; bookOf(0, 2) = 3",
                "type(\"e0/8;e0/9;e0/10;e0/11;d0\"); commands() = 5; account(1) = 20; account(10) = 1");
        Script.run("promise 32, the number of commands: 1", "type(\"w1\"); commands() = 1");
        Script.run("promise 32, the number of commands: 20",
                "type(\"" + "w1;".repeat(19) + "w1\"); commands() = 20; account(0) = 20; account(11) = 1");
    }

    private static void faultPosition() {
        Script.run("promise 33, there was no such call", "faultPosition() = -1; type(\"x\"); faultPosition() = -1");
        Script.run("promise 33, that text had no fault: carried out",
                "type(\"x\"); " + FAULT + "0; type(\"w1\"); commands() = 1; faultPosition() = -1");
        Script.run("promise 33, that text had no fault: refused",
                "type(\"x\"); " + FAULT + "0; type(\"t0\"); commands() = refused 11 0; faultPosition() = -1");
        Script.run("promise 33, the latest call", "type(\"wx\"); " + FAULT + "1; type(\"w1;x\"); " + FAULT + "3");
        Script.run("promise 33, characters that are appended later leave it",
                "type(\"wx\"); " + FAULT + "1; type(\"w1\"); faultPosition() = 1");
        Script.run("changes, it stays when a call is undone",
                "book(4, 2) = 0; type(\"wx\"); " + FAULT + "1; undo() = 0; faultPosition() = 1");
        Script.run("changes, it stays when the snapshot is restored",
                "save() = 0; type(\"wx\"); " + FAULT + "1; restore() = 0; faultPosition() = 1");
    }
}
