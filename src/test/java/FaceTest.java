import java.io.IOException;
import java.lang.reflect.Constructor;
import java.lang.reflect.Field;
import java.lang.reflect.Method;
import java.lang.reflect.Modifier;
import java.nio.file.Files;
import java.nio.file.Path;
import java.util.Arrays;
import java.util.Set;
import java.util.TreeSet;

/** The public face, as the document gives it, and those rules of ../shared/LANGUAGE.md that can be seen from outside. */
public final class FaceTest {
    private static final String[] FACE = {
        "int book(int, int) UnsupportedOperationException",
        "int gather(int, int, int, boolean) UnsupportedOperationException",
        "int move(int, int, int) UnsupportedOperationException",
        "int drop(int, int) UnsupportedOperationException",
        "int spool(int) UnsupportedOperationException",
        "int sew(int) UnsupportedOperationException",
        "int unpick(int) UnsupportedOperationException",
        "int glue(int, int) UnsupportedOperationException",
        "int press(int, int) UnsupportedOperationException",
        "int lift(int) UnsupportedOperationException",
        "int slip(int, int) UnsupportedOperationException",
        "int deliver(int) UnsupportedOperationException",
        "int pass(int) UnsupportedOperationException",
        "int bookOf(int, int) IndexOutOfBoundsException IllegalArgumentException",
        "int signatureOf(int, int, int) IndexOutOfBoundsException IllegalArgumentException",
        "int pageAt(int, int) IndexOutOfBoundsException",
        "int wrong(int) IndexOutOfBoundsException",
        "int wrongAgain(int) IndexOutOfBoundsException",
        "int firstWrong(int) IndexOutOfBoundsException NoSuchElementException",
        "int missing(int) IndexOutOfBoundsException",
        "int missingPage(int, int) IndexOutOfBoundsException NoSuchElementException",
        "int twice(int) IndexOutOfBoundsException",
        "int rightPlace(int, int) IndexOutOfBoundsException",
        "int threadFor(int) IndexOutOfBoundsException",
        "boolean hasSlip(int, int) IndexOutOfBoundsException",
        "int inPress(int, int) IndexOutOfBoundsException NoSuchElementException",
        "int readyIn(int) IndexOutOfBoundsException NoSuchElementException",
        "int readyAgain(int) IndexOutOfBoundsException NoSuchElementException",
        "int ranked(int) NoSuchElementException",
        "int append(char) IllegalStateException",
        "int commands() IllegalArgumentException UnsupportedOperationException",
        "int faultPosition()",
        "int reason(int) IllegalArgumentException NoSuchElementException",
        "int line(int) IndexOutOfBoundsException",
        "char character(int) IndexOutOfBoundsException",
        "float rightShare(int) IndexOutOfBoundsException ArithmeticException",
        "double meanSignatures() ArithmeticException",
        "int account(int) IllegalArgumentException",
        "int undo() IllegalStateException",
        "int save()",
        "int restore() IllegalStateException",
    };
    private static final String[] WORDS_OUT = {"catch", "try", "finally", "->", "::", "synchronized", "assert",
        "instanceof", "static {", "System.out", "System.err", "currentTimeMillis", "nanoTime", "Random", "new Thread",
        "java.io", "java.nio", "Exact(", "toString", "hashCode", "@Override", "lambda", "var "};

    public static void main(String[] args) throws IOException {
        Class<?> face = BookBindery.class;
        Script.run("the face");
        Script.due("the modifiers", Modifier.toString(face.getModifiers()), "public final");
        Script.due("the methods", publicMethods(face), new TreeSet<>(Arrays.asList(FACE)));
        Constructor<?>[] constructors = face.getDeclaredConstructors();
        Script.due("the constructors", Arrays.toString(constructors), "[public BookBindery()]");
        Script.due("other members of the face", otherMembers(face), "[]");
        Set<String> names = new TreeSet<>();
        for (Method method : face.getDeclaredMethods()) if (isPublic(method)) names.add(method.getName());
        checkClass(face, names);
        for (Class<?> inside : face.getDeclaredClasses()) {
            int modifiers = inside.getModifiers();
            if (!Modifier.isStatic(modifiers) || Modifier.isPublic(modifiers) || Modifier.isProtected(modifiers)) {
                Script.tell(inside + " is not as rule 1 wants it");
            }
            checkClass(inside, names);
        }
        if (face.getDeclaredClasses().length > 11) Script.tell("there are more than twelve classes");
        checkSource(Files.readString(Path.of("src/main/java/BookBindery.java")));
        Script.finish("FaceTest");
    }

    private static boolean isPublic(Method method) {
        return Modifier.isPublic(method.getModifiers());
    }

    private static Set<String> publicMethods(Class<?> face) {
        Set<String> methods = new TreeSet<>();
        for (Method method : face.getDeclaredMethods()) {
            if (!isPublic(method)) continue;
            StringBuilder text = new StringBuilder(method.getReturnType() + " " + method.getName());
            String types = Arrays.toString(method.getParameterTypes());
            text.append('(').append(types, 1, types.length() - 1).append(')');
            for (Class<?> thrown : method.getExceptionTypes()) text.append(' ').append(thrown.getSimpleName());
            methods.add(text.toString());
        }
        return methods;
    }

    private static Set<String> otherMembers(Class<?> face) {
        Set<String> others = new TreeSet<>();
        for (Field field : face.getDeclaredFields()) {
            if (!Modifier.isPrivate(field.getModifiers())) others.add(field.getName());
        }
        for (Method method : face.getDeclaredMethods()) {
            if (!isPublic(method) && !Modifier.isPrivate(method.getModifiers())) others.add(method.getName());
        }
        return others;
    }

    private static void checkClass(Class<?> checked, Set<String> faceNames) {
        int fields = 0;
        for (Field field : checked.getDeclaredFields()) {
            int modifiers = field.getModifiers();
            if (!Modifier.isStatic(modifiers)) fields++;
            else if (!Modifier.isFinal(modifiers)) Script.tell(field + " is static and not final");
        }
        if (fields > 20) Script.tell(checked + " has more than twenty fields");
        for (Method method : checked.getDeclaredMethods()) {
            boolean bearsFaceName = Modifier.isPrivate(method.getModifiers()) && faceNames.contains(method.getName());
            if (bearsFaceName) Script.tell(method + " bears the name of a public method");
            if (method.getParameterCount() > 7) Script.tell(method + " takes more than seven parameters");
        }
    }

    private static void checkSource(String source) {
        for (String word : WORDS_OUT) {
            if (source.contains(word)) Script.tell("the source has " + word);
        }
        for (char c : source.toCharArray()) {
            if (c > 126) Script.tell("the source has the character " + (int) c);
        }
        int imports = source.split("\nimport |^import ", -1).length - 1;
        if (imports != 1 || !source.contains("import java.util.NoSuchElementException;")) Script.tell("the imports");
    }
}
