/** Promise 34: reason. The reasons of each method stand in the tests of that method. */
public final class ReasonTest {
    public static void main(String[] args) {
        Script.run("promise 34, nothing was refused",
                "reason(0) = throws NoSuchElementException; reason(1) = throws NoSuchElementException",
                "reason(2) = throws NoSuchElementException; reason(3) = throws IllegalArgumentException",
                "reason(-1) = throws IllegalArgumentException; reason(2147483647) = throws IllegalArgumentException",
                "bookOf(0, 0) = throws IndexOutOfBoundsException; undo() = throws IllegalStateException",
                "commands() = throws IllegalArgumentException; spool(1) = 101; reason(0) = throws NoSuchElementException");
        Script.run("promise 34, the latest one is kept",
                "spool(0) = refused 1 0; sew(5) = refused 3 5; reason(0) = 3; reason(1) = 5; reason(2) = 0; spool(1) = 101",
                "reason(0) = 3; reason(1) = 5; reason(3) = throws IllegalArgumentException; type(\"w1;w1;s7\")",
                "commands() = refused 3 7 2; save() = 0; undo() = 0; restore() = 0; reason(0) = 3; reason(1) = 7; reason(2) = 2",
                "type(\"sx\"); commands() = throws IllegalArgumentException; reason(0) = 3; reason(2) = 2");
        Script.run("promise 34, calls that succeed leave it",
                "lift(1) = refused 11 1; book(8, 2) = 0; gather(0, 5, 1, false); gather(0, 1, 1, false); move(0, 0, 1) = 0",
                "gather(0, 1, 1, false); drop(0, 2) = 2; sew(0); sew(0); unpick(0); sew(0); glue(0, 1); press(0, 0); pass(8)",
                "lift(0) = 0; deliver(0) = 1; type(\"w1;w1\"); commands() = 2; reason(0) = 11; reason(1) = 1; reason(2) = 0");
        Script.finish("ReasonTest");
    }
}
