/** Promises 31 to 33: append, commands and faultPosition. */
public final class TextTest {
    private static final String FAULT = "commands() = throws IllegalArgumentException; faultPosition() = ";

    public static void main(String[] args) {
        append();
        eachCommand();
        allOrNone();
        numbersOutOfRange();
        faults();
        faultPosition();
        Script.finish("TextTest");
    }

    private static void append() {
        StringBuilder sixty = new StringBuilder();
        for (int length = 1; length <= 60; length++) sixty.append("append('d') = ").append(length).append("; ");
        Script.run("promise 31, at most 60 characters", sixty.toString(),
                "account(12) = 60; append('d') = throws IllegalStateException; append(';') = throws IllegalStateException",
                FAULT + "1; account(12) = 0; append('d') = 1; append(0) = 2; append(65535) = 3");
        Script.run("promise 31, a text of 60 characters is carried out whole",
                "book(4, 2) = 0; type(\"" + "w1;".repeat(19) + "w12\"); account(12) = 60; commands() = 20; account(0) = 31");
        Script.run("promise 31, the buffer is not undone",
                "book(4, 2) = 0; save() = 1; append('w') = 1; undo() = 0; account(12) = 1; restore() = 1; append('9') = 2; commands() = 1");
    }

    private static void eachCommand() {
        Script.run("promise 32, g", "book(96, 2) = 0; type(\"g0@7:1\"); commands() = 1; type(\"g0@99:3!\"); commands() = 1",
                "type(\"g0@08:2!;g0@1:2\"); commands() = 2; line(0) = 25; shown() = \"0: 7-10 99-114! 8-15! 1-8\"; account(11) = 4");
        Script.run("promise 32, s, u, l, p, t, e, d and w", "book(4, 2) = 0; book(8, 2) = 1",
                "type(\"g1@1:2;g1@9:1\"); commands() = 2; type(\"s1\"); commands() = 1; account(2) = 87; type(\"u1\"); commands() = 1",
                "account(8) = 1; type(\"s1;s1\"); commands() = 2; account(2) = 68; type(\"l12\"); commands() = 1; bookOf(1, 7) = 2",
                "type(\"p11\"); commands() = 1; inPress(1, 0) = 1; type(\"w14\"); commands() = 1; bookOf(1, 8) = 1",
                "type(\"w1;t1\"); commands() = 2; bookOf(1, 2) = 3; type(\"e1/8;e1/11\"); commands() = 2; bookOf(1, 6) = 2",
                "hasSlip(1, 8) = true; hasSlip(1, 11) = true; type(\"e1/09;e1/10;d1\"); commands() = 3; bookOf(1, 2) = 4",
                "account(1) = 21; account(0) = 15");
        Script.run("promise 32, from gathering to delivery in two texts", "book(8, 2) = 0",
                "type(\"g0@5:1;g0@1:1;s0;u0;s0;s0;l01;p00;w8;t0\"); commands() = 10; bookOf(0, 2) = 3; account(11) = 2",
                "type(\"e0/0;e0/1;e0/2;e0/3;e0/4;e0/5;e0/6;e0/7;d0\"); commands() = 9; account(5) = 1; undo() = 2",
                "bookOf(0, 6) = 0; undo() = 1; bookOf(0, 3) = 0; account(0) = 0; account(2) = 100; account(12) = 0");
    }

    private static void allOrNone() {
        Script.run("promise 32, the first one that is refused", "book(4, 2) = 0",
                "type(\"g0@1:1;s0;s0;s9\"); commands() = refused 6 1 2; bookOf(0, 3) = 0; account(2) = 100; account(11) = 1",
                "type(\"w9;g0@1:1;s0;l01;w8;p00\"); commands() = refused 4 0 5; account(0) = 0; faultPosition() = -1",
                "type(\"s0\"); commands() = refused 6 0; type(\"s1;s0\"); commands() = refused 3 1; account(12) = 0");
        Script.run("promise 32, a refused text drives no change out", Script.times(9, "spool(1)"),
                "type(\"w1;w0\"); commands() = refused 1 0 1; account(11) = 8; type(\"w0\"); commands() = refused 1 0",
                "undo() = 7; undo() = 6; undo() = 5; undo() = 4; undo() = 3; undo() = 2; undo() = 1; undo() = 0; account(2) = 101");
        Script.run("promise 32, the index of the command is 0 again for another call", "type(\"w1;w2;t0\")",
                "commands() = refused 11 0 2; lift(1) = refused 11 1 0; type(\"w1;t1\"); commands() = refused 11 1 1",
                "type(\"t1\"); commands() = refused 11 1 0");
    }

    private static void numbersOutOfRange() {
        Script.run("promise 32, no faults, but refused", "book(4, 2) = 0",
                "type(\"g0@0:1\"); commands() = refused 1 0; faultPosition() = -1; type(\"g0@00:1\"); commands() = refused 1 0",
                "type(\"g0@1:0\"); commands() = refused 1 0; type(\"g0@1:4!\"); commands() = refused 1 0; type(\"g9@1:1\")",
                "commands() = refused 3 9; type(\"s9\"); commands() = refused 3 9; type(\"u8\"); commands() = refused 3 8",
                "type(\"l03\"); commands() = refused 3 3; type(\"l70\"); commands() = refused 3 7; type(\"p09\")",
                "commands() = refused 3 9; type(\"p90\"); commands() = refused 3 9; type(\"t2\"); commands() = refused 3 2",
                "type(\"e5/99\"); commands() = refused 3 5; type(\"d1\"); commands() = refused 3 1; type(\"w0\")",
                "commands() = refused 1 0; type(\"w61\"); commands() = refused 1 0; type(\"w99\"); commands() = refused 1 0",
                "type(\"w60\"); commands() = 1; type(\"w01\"); commands() = 1; account(0) = 61");
    }

    private static void faults() {
        String[] texts = {"", "x", "g", "gx", "g0", "g01", "g0@", "g0@:", "g0@1", "g0@1x", "g0@12", "g0@123", "g0@1:",
            "g0@1:!", "g0@12:11", "g0@1:1!!", "g0@1:1;", "g0@1:1;;", "g0@1:1!;x", "s", "s00", "s0;", "u", "ux", "u0u", "l",
            "l0", "l0;", "l000", "p", "p0", "p0x", "p0000", "t", "t;", "t00", "e", "e0", "e00", "e0/", "e0/x", "e0/123",
            "e0/1;", "d", "d!", "d00", "w", "wx", "w123", "w1;w", "w1!", ";", " s0", "s0 ", "S0", "s0;S0", "s\uff11", "s/", "s:"};
        int[] faults = {0, 0, 1, 1, 2, 2, 3, 3, 4, 4, 5, 5, 5,
            5, 7, 7, 7, 7, 8, 1, 2, 3, 1, 1, 2, 1,
            2, 2, 3, 1, 2, 2, 3, 1, 1, 2, 1, 2, 2, 3, 3, 5,
            5, 1, 1, 2, 1, 1, 3, 4, 2, 0, 0, 2, 0, 3, 1, 1, 1};
        for (int i = 0; i < texts.length; i++) {
            String before = "book(4, 2) = 0; type(\"w1;d7\"); commands() = refused 3 7 1; ";
            Script.run("promises 32 and 33, the fault of " + texts[i],
                    before + "type(\"" + texts[i] + "\"); " + FAULT + faults[i] + "; account(12) = 0; account(0) = 0",
                    "reason(0) = 3; reason(2) = 1; account(11) = 1");
        }
    }

    private static void faultPosition() {
        Script.run("promise 33, of the latest call of commands",
                "faultPosition() = -1; " + FAULT + "0; faultPosition() = 0; type(\"w1;x\"); faultPosition() = 0; " + FAULT + "3",
                "pass(1) = 0; faultPosition() = 3; undo() = 0; faultPosition() = 3; type(\"w1\"); commands() = 1; faultPosition() = -1",
                "type(\"sx\"); " + FAULT + "1; type(\"s0\"); commands() = refused 3 0; faultPosition() = -1");
    }
}
