import java.util.ArrayList;
import java.util.List;

/** Long runs of mixed calls, the same ones each time, whose answers must be those of the model. */
public final class RandomRunsTest {
    private static final int RUNS = 1500;
    private static final int CALLS = 512;
    private static final int CALLS_FOR_A_REASON = 3;
    private static final int[] EXTREMES = {-1, -2147483648, 2147483647, 2147483646, 100, 200, 1000};

    private static final class Numbers {
        private long state;

        Numbers(long seed) {
            state = seed * 0x9E3779B97F4A7C15L + 0x1234567L;
        }

        int below(int bound) {
            state = state * 6364136223846793005L + 1442695040888963407L;
            return (int) ((state >>> 33) % bound);
        }

        boolean isOneOf(int many) {
            return below(many) == 0;
        }

        /** A number from least to most, sometimes one beside them, and seldom one far away. */
        int about(int least, int most) {
            if (isOneOf(60)) return EXTREMES[below(EXTREMES.length)];
            if (isOneOf(15)) return isOneOf(2) ? least - 1 : most + 1;
            return least + below(most - least + 1);
        }
    }

    private final Numbers numbers;
    private final int run;
    private final BookBindery bindery = new BookBindery();
    private final Model model = new Model();
    private final List<String> told = new ArrayList<>();
    private boolean isWrong;
    private int calls;
    // How much the run keeps to a few books, and how it lays its signatures.
    private final int favourites;
    private final boolean isOrderly;

    private RandomRunsTest(int run) {
        this.run = run;
        numbers = new Numbers(run);
        favourites = 1 + numbers.below(5);
        isOrderly = numbers.isOneOf(2);
    }

    public static void main(String[] args) {
        int wrong = 0;
        for (int run = 1; run <= RUNS && wrong < 5; run++) {
            RandomRunsTest test = new RandomRunsTest(run);
            while (test.calls + CALLS_FOR_A_REASON < CALLS && !test.isWrong) test.nextCall();
            if (test.isWrong) wrong++;
        }
        System.out.println("RandomRunsTest: " + RUNS + " runs, " + wrong + " went wrong");
        if (wrong > 0) System.exit(1);
    }

    private void nextCall() {
        if (numbers.below(100) < 45) {
            ask();
        } else {
            act();
        }
    }

    private int someBook() {
        return numbers.about(0, favourites);
    }

    private void act() {
        int number = someBook();
        switch (numbers.below(24)) {
            case 0, 1 -> call("book", isOrderly ? numbers.about(4, 20) : numbers.about(4, 96), numbers.about(2, 5));
            case 2, 3, 4 -> gather(number);
            case 5 -> call("move", number, numbers.about(0, 3), numbers.about(0, 3));
            case 6 -> call("drop", number, numbers.about(0, 3));
            case 7 -> call("spool", numbers.about(1, 200));
            case 8, 9, 10 -> call("sew", number);
            case 11 -> call("unpick", number);
            case 12 -> call("glue", number, numbers.about(0, 2));
            case 13, 14 -> call("press", number, numbers.about(0, 1));
            case 15 -> call("lift", numbers.about(0, 1));
            case 16 -> call("slip", number, numbers.about(0, isOrderly ? 12 : 191));
            case 17 -> call("deliver", number);
            case 18 -> call("pass", numbers.isOneOf(3) ? numbers.about(1, 60) : numbers.about(1, 9));
            case 19 -> bindOne(number);
            case 20, 21 -> text();
            case 22 -> call("undo");
            default -> call(numbers.isOneOf(2) ? "save" : numbers.isOneOf(3) ? "restore" : "undo");
        }
    }

    private void gather(int number) {
        int first = isOrderly ? 1 + 4 * numbers.below(4) + (numbers.isOneOf(3) ? 1 : 0) : numbers.about(1, 99);
        call("gather", number, first, isOrderly ? numbers.about(1, 2) : numbers.about(1, 3), numbers.isOneOf(3) ? 1 : 0);
    }

    private void bindOne(int number) {
        int press = numbers.below(2);
        int glue = numbers.below(3);
        for (int i = 0; i < 12; i++) {
            if (call("sew", number).startsWith("throws") && call("spool", 200).startsWith("throws")) break;
        }
        call("glue", number, glue);
        if (numbers.isOneOf(6)) call("pass", numbers.about(1, 20));
        call("press", number, press);
        call("pass", numbers.isOneOf(3) ? 7 : 30);
        call("lift", press);
        if (numbers.isOneOf(2)) slipAll(number);
        call("deliver", number);
    }

    private void slipAll(int number) {
        for (int position = 0; position < 16; position++) call("slip", number, position);
    }

    private void text() {
        StringBuilder text = new StringBuilder();
        int commands = 1 + numbers.below(numbers.isOneOf(4) ? 12 : 4);
        for (int i = 0; i < commands; i++) text.append(i == 0 ? "" : ";").append(command());
        if (numbers.isOneOf(4) && text.length() > 0) {
            int at = numbers.below(text.length());
            char other = "gsulptedw;@:/!0123456789 x".charAt(numbers.below(26));
            if (numbers.isOneOf(2)) text.setCharAt(at, other);
            else if (numbers.isOneOf(2)) text.deleteCharAt(at);
            else text.insert(at, other);
        }
        for (int i = 0; i < text.length(); i++) call("append", text.charAt(i));
        if (!numbers.isOneOf(20)) call("commands");
    }

    private String command() {
        int number = numbers.isOneOf(20) ? numbers.below(10) : numbers.below(favourites);
        int press = numbers.isOneOf(20) ? numbers.below(10) : numbers.below(2);
        return switch (numbers.below(12)) {
            case 0, 1 -> "g" + number + "@" + numbers.below(numbers.isOneOf(2) ? 10 : 100) + ":"
                    + (numbers.isOneOf(15) ? numbers.below(10) : 1 + numbers.below(3)) + (numbers.isOneOf(3) ? "!" : "");
            case 2, 3 -> "s" + number;
            case 4 -> "u" + number;
            case 5, 6 -> "l" + number + (numbers.isOneOf(20) ? 3 : numbers.below(3));
            case 7 -> "p" + number + press;
            case 8 -> "t" + press;
            case 9 -> "e" + number + "/" + numbers.below(20);
            case 10 -> "d" + number;
            default -> "w" + (numbers.isOneOf(3) ? numbers.below(70) : 1 + numbers.below(9));
        };
    }

    private void ask() {
        int number = someBook();
        switch (numbers.below(23)) {
            case 0, 1 -> call("bookOf", number, numbers.about(0, 8));
            case 2 -> call("signatureOf", number, numbers.about(0, 3), numbers.about(0, 4));
            case 3 -> call("pageAt", number, numbers.about(0, isOrderly ? 15 : 60));
            case 4 -> call("wrong", number);
            case 5 -> call("wrongAgain", number);
            case 6 -> call("firstWrong", number);
            case 7 -> call("missing", number);
            case 8 -> call("missingPage", number, numbers.about(0, 12));
            case 9 -> call("twice", number);
            case 10 -> call("rightPlace", number, numbers.about(0, 3));
            case 11 -> call("threadFor", number);
            case 12 -> call("hasSlip", number, numbers.about(0, isOrderly ? 12 : 60));
            case 13 -> call("inPress", numbers.about(0, 1), numbers.about(0, 2));
            case 14 -> call("readyIn", numbers.about(0, 1));
            case 15 -> call("readyAgain", numbers.about(0, 1));
            case 16 -> call("ranked", numbers.about(0, favourites));
            case 17 -> call(numbers.isOneOf(2) ? "meanSignatures" : "faultPosition");
            case 18 -> call("reason", numbers.about(0, 2));
            case 19 -> call("line", number);
            case 20 -> call("character", numbers.about(0, 25));
            case 21 -> call("rightShare", number);
            default -> call("account", numbers.about(0, 12));
        }
    }

    private String call(String name, int... p) {
        if (isWrong || calls + CALLS_FOR_A_REASON >= CALLS) return "throws nothing, it is not called any more";
        calls++;
        StringBuilder call = new StringBuilder(name).append("(");
        for (int i = 0; i < p.length; i++) {
            boolean isTruth = name.equals("gather") && i == 3;
            call.append(i == 0 ? "" : ", ").append(isTruth ? String.valueOf(p[i] == 1) : String.valueOf(p[i]));
        }
        String got = Script.answer(bindery, call.append(")").toString());
        String want = model.answer(name, p);
        told.add(call + " = " + got);
        if (!got.equals(want)) tell(call + " answered " + got + ", due is " + want);
        if (got.equals("throws UnsupportedOperationException")) compareReasons();
        return got;
    }

    private void compareReasons() {
        calls += CALLS_FOR_A_REASON;
        for (int what = 0; what <= 2; what++) {
            String got = String.valueOf(bindery.reason(what));
            String want = model.answer("reason", what);
            if (!got.equals(want)) tell("reason(" + what + ") answered " + got + ", due is " + want);
        }
    }

    private void tell(String fault) {
        isWrong = true;
        System.out.println("run " + run + ", call " + calls + ": " + fault);
        for (String line : told.subList(Math.max(0, told.size() - 40), told.size())) System.out.println("    " + line);
    }
}
