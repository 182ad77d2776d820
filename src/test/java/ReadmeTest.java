import java.io.ByteArrayOutputStream;
import java.io.IOException;
import java.io.PrintStream;
import java.lang.reflect.Method;
import java.lang.reflect.Modifier;
import java.net.URL;
import java.net.URLClassLoader;
import java.nio.file.Files;
import java.nio.file.Path;
import java.util.ArrayList;
import java.util.List;
import java.util.regex.Matcher;
import java.util.regex.Pattern;
import javax.tools.JavaCompiler;
import javax.tools.ToolProvider;

/** README.md: its code prints what stands behind it, its tables are those of the document, and its files are there. */
public final class ReadmeTest {
    private static final Path PLACE = Path.of("build", "readme");
    // A piece of code, and the text behind it.
    private static final Pattern CODE = Pattern.compile("```java\n(.*?)```\n\n```text\n(.*?)```", Pattern.DOTALL);
    private static final Pattern COMMAND = Pattern.compile("(`[^|]*`) \\| (`[^|]*\\)`) \\|");
    private static final List<String> BEGINNINGS = List.of("", "book(96, 2)", Steps.TWELVE, Steps.TWELVE + "sew(0)",
            Steps.SEWN, Steps.SEWN + "glue(0, 0)", Steps.SEWN + "glue(0, 1); press(0, 1); pass(8)",
            Steps.SEWN + Steps.SEWN_TO_BOUND, "book(4, 2); gather(0, 1, 3, false); sew(0); " + Steps.SEWN_TO_BOUND);
    private static final Pattern LINK = Pattern.compile("\\]\\(([^)]*)\\)");

    public static void main(String[] args) throws Exception {
        String readme = Files.readString(Path.of("README.md"));
        code(readme);
        methods(readme);
        commands(readme);
        files(readme);
        Script.finish("ReadmeTest");
    }

    private static void code(String readme) throws Exception {
        Matcher pieces = CODE.matcher(readme);
        int number = 0;
        while (pieces.find()) {
            number++;
            Script.run("the code " + number);
            Script.due("the code " + number, printed("Readme" + number, pieces.group(1)), pieces.group(2));
        }
        Script.due("the pieces of code", number, readme.split("```java", -1).length - 1);
        if (number < 4) Script.tell("a piece of code is gone");
    }

    private static String printed(String name, String code) throws Exception {
        Files.createDirectories(PLACE);
        Path source = PLACE.resolve(name + ".java");
        Files.writeString(source, "public final class " + name + " {\n    public static void main(String[] args) {\n"
                + code + "    }\n}\n");
        JavaCompiler compiler = ToolProvider.getSystemJavaCompiler();
        int result = compiler.run(null, null, null, "-cp", System.getProperty("java.class.path"),
                "-d", PLACE.toString(), source.toString());
        if (result != 0) return "nothing: it is no Java";
        PrintStream console = System.out;
        ByteArrayOutputStream printed = new ByteArrayOutputStream();
        try (URLClassLoader loader = new URLClassLoader(new URL[] {PLACE.toUri().toURL()})) {
            System.setOut(new PrintStream(printed, true));
            loader.loadClass(name).getMethod("main", String[].class).invoke(null, (Object) new String[0]);
        } finally {
            System.setOut(console);
        }
        return printed.toString().replace(System.lineSeparator(), "\n");
    }

    private static void methods(String readme) {
        Script.run("the tables of the methods");
        for (Method method : BookBindery.class.getDeclaredMethods()) {
            if (!Modifier.isPublic(method.getModifiers())) continue;
            Matcher told = Pattern.compile("\n\\|[^|]*`" + method.getName() + "\\(([^)]*)\\)`[^|]*\\|").matcher(readme);
            if (!told.find()) {
                Script.tell("no table tells of " + method.getName());
                continue;
            }
            int parameters = told.group(1).isEmpty() ? 0 : told.group(1).split(",").length;
            Script.due("the parameters of " + method.getName(), parameters, method.getParameterCount());
        }
    }

    // Each command and the call that stands behind it are refused for the same reason, and do the same to a book.
    private static void commands(String readme) {
        int count = 0;
        Matcher rows = COMMAND.matcher(readme.substring(readme.indexOf("| command | call |")));
        while (rows.find()) {
            List<String> texts = quoted(rows.group(1));
            List<String> calls = quoted(rows.group(2));
            for (int index = 0; index < texts.size(); index++) sameChange(texts.get(index), calls.get(index));
            count += texts.size();
        }
        Script.due("the commands of README.md", count, 10);
    }

    private static void sameChange(String text, String call) {
        Script.run("the command " + text);
        for (String beginning : BEGINNINGS) {
            BookBindery byText = new BookBindery();
            BookBindery byCall = new BookBindery();
            Script.carryOut(byText, beginning + "; type(\"" + text + "\"); commands()");
            Script.carryOut(byCall, beginning + "; " + call);
            State left = new State(byText);
            State right = new State(byCall);
            Script.due(text + " for " + call, left.undoable + left.reason, right.undoable + right.reason);
        }
    }

    private static List<String> quoted(String cell) {
        List<String> words = new ArrayList<>();
        Matcher matcher = Pattern.compile("`([^`]*)`").matcher(cell);
        while (matcher.find()) words.add(matcher.group(1));
        return words;
    }

    private static void files(String readme) throws IOException {
        Script.run("the files");
        Matcher links = LINK.matcher(readme);
        while (links.find()) {
            if (!Files.exists(Path.of(links.group(1)))) Script.tell("there is no " + links.group(1));
        }
        try (var tests = Files.newDirectoryStream(Path.of("src", "test", "java"), "*Test.java")) {
            for (Path test : tests) {
                String name = test.getFileName().toString().replace(".java", "");
                boolean isTold = readme.contains("`" + name + "`") || name.endsWith("EdgesTest");
                if (!isTold) Script.tell("README.md does not tell of " + name);
            }
        }
    }
}
