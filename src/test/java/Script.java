import java.lang.reflect.InvocationTargetException;
import java.lang.reflect.Method;
import java.util.ArrayList;
import java.util.List;
import java.util.Set;

/**
 * Runs calls on a new object that are written as the document writes its examples, with ";" between them:
 *
 *   sew(0) = 89                       the answer that is due
 *   sew(0)                            any answer, but no exception
 *   sew(9) = throws SomeException     the exception that is due, by its very name
 *   sew(9) = refused 3 9              UnsupportedOperationException, then reason(0), reason(1) and reason(2);
 *   commands() = refused 3 9 1        the last one is 0 if it is left out
 *   type("s0;u0")                     appends the characters one by one
 *   shown() = "0: 1-4"                the characters of the line
 *
 * Of each call it looks too whether all stayed that it must not change: everything that can be asked, if it throws or
 * only asks; the text buffer, the fault position, the reason and the line, if it is not theirs. To look takes more calls
 * than the 512 of the document; the class counts none.
 */
final class Script {
    private static final Set<String> CHANGES = Set.of("book", "gather", "move", "drop", "spool", "sew", "unpick",
            "glue", "press", "lift", "slip", "deliver", "pass", "commands", "undo", "restore");

    private static int runs = 0;
    private static int wrong = 0;

    private final String name;
    private final BookBindery bindery = new BookBindery();

    private Script(String name) {
        this.name = name;
    }

    static void run(String name, String... lines) {
        runs++;
        Script script = new Script(name);
        for (String line : lines) {
            for (String step : split(line, ';')) script.step(step);
        }
    }

    /** Carries calls out on an object of the caller's, whatever they answer. */
    static void carryOut(BookBindery bindery, String steps) {
        for (String step : split(steps, ';')) {
            if (step.isEmpty()) continue;
            int equals = step.indexOf(") = ");
            String call = equals < 0 ? step : step.substring(0, equals + 1);
            if (call.startsWith("type(")) append(bindery, call);
            else answer(bindery, call);
        }
    }

    private static void append(BookBindery bindery, String call) {
        for (char c : call.substring(6, call.length() - 2).toCharArray()) bindery.append(c);
    }

    static String times(int times, String steps) {
        return (steps + "; ").repeat(times);
    }

    static void due(String what, Object got, Object want) {
        if (!String.valueOf(got).equals(String.valueOf(want))) tell(what + " answered " + got + ", due is " + want);
    }

    static void tell(String fault) {
        wrong++;
        System.out.println(fault);
    }

    static void finish(String program) {
        System.out.println(program + ": " + runs + " runs, " + wrong + " answers are not as due");
        if (wrong != 0 || runs == 0) System.exit(1);
    }

    private void step(String step) {
        if (step.isEmpty()) return;
        int equals = step.indexOf(") = ");
        String call = equals < 0 ? step : step.substring(0, equals + 1);
        String want = equals < 0 ? null : step.substring(equals + 4).trim();
        String label = name + ": " + call;
        if (call.startsWith("type(")) {
            append(bindery, call);
        } else if (call.equals("shown()")) {
            due(label, "\"" + State.line(bindery) + "\"", want);
        } else {
            checkCall(label, call, want);
        }
    }

    private void checkCall(String label, String call, String want) {
        String method = call.substring(0, call.indexOf('('));
        State before = new State(bindery);
        String got = answer(bindery, call);
        State after = new State(bindery);
        boolean isThrown = got.startsWith("throws ");
        String fault = after.differsFrom(before, method, got, CHANGES.contains(method) && !isThrown);
        if (fault != null) tell(label + " changed what it must not: " + fault);
        after.checkSecondWays(label);
        if (want == null) {
            if (isThrown) tell(label + " answered " + got);
        } else if (want.startsWith("refused ")) {
            due(label, got, "throws UnsupportedOperationException");
            String[] numbers = want.split(" ");
            due(label + ", then the reason", after.reason,
                    numbers[1] + " " + numbers[2] + " " + (numbers.length > 3 ? numbers[3] : "0"));
        } else {
            due(label, got, want);
        }
    }

    /** The answer of a call as a text, also if it is an exception. */
    static String answer(BookBindery bindery, String call) {
        String name = call.substring(0, call.indexOf('('));
        List<String> words = split(call.substring(name.length() + 1, call.length() - 1), ',');
        for (Method method : BookBindery.class.getDeclaredMethods()) {
            if (!method.getName().equals(name)) continue;
            Class<?>[] types = method.getParameterTypes();
            if (types.length != words.size()) throw new IllegalArgumentException("parameters of " + call);
            Object[] given = new Object[types.length];
            for (int i = 0; i < types.length; i++) given[i] = parameter(words.get(i), types[i]);
            try {
                return String.valueOf(method.invoke(bindery, given));
            } catch (InvocationTargetException e) {
                return "throws " + e.getCause().getClass().getSimpleName();
            } catch (IllegalAccessException e) {
                throw new IllegalArgumentException(call);
            }
        }
        throw new IllegalArgumentException("no method for " + call);
    }

    private static Object parameter(String word, Class<?> type) {
        if (type == int.class) return Integer.valueOf(word);
        if (type == boolean.class) return Boolean.valueOf(word);
        return word.startsWith("'") ? word.charAt(1) : (char) Integer.parseInt(word);
    }

    private static List<String> split(String text, char between) {
        List<String> parts = new ArrayList<>();
        StringBuilder part = new StringBuilder();
        boolean isQuoted = false;
        int depth = 0;
        for (char c : text.toCharArray()) {
            if (c == '"' || c == '\'') isQuoted = !isQuoted;
            if (!isQuoted && c == '(') depth++;
            if (!isQuoted && c == ')') depth--;
            if (c == between && !isQuoted && depth == 0) {
                parts.add(part.toString().trim());
                part.setLength(0);
            } else {
                part.append(c);
            }
        }
        if (!part.toString().isBlank()) parts.add(part.toString().trim());
        return parts;
    }
}
