/** Promises 9 to 11, 14 and 27 to 29: glue, press, lift, pass, inPress, readyIn and readyAgain. */
public final class PressTest {
    public static void main(String[] args) {
        glue();
        press();
        lift();
        pass();
        inPress();
        ready();
        Script.finish("PressTest");
    }

    private static void glue() {
        Script.run("promise 9, glue 0", Steps.SEWN, "glue(0, 0) = 30; bookOf(0, 2) = 1; bookOf(0, 7) = 0; bookOf(0, 8) = 30");
        Script.run("promise 9, glue 1", Steps.SEWN, "glue(0, 1) = 8; bookOf(0, 7) = 1; bookOf(0, 8) = 8; bookOf(0, 4) = 1");
        Script.run("promise 9, glue 2", Steps.SEWN, "glue(0, 2) = 15; bookOf(0, 7) = 2; bookOf(0, 8) = 15");
        Script.run("promise 9, the reasons in their order",
                "glue(0, 9) = refused 3 0; book(4, 2) = 0; glue(-1, 9) = refused 3 -1; glue(0, 3) = refused 3 3",
                "glue(0, -1) = refused 3 -1; glue(0, 2147483647) = refused 3 2147483647; glue(0, 2) = refused 9 0",
                "gather(0, 1, 1, false) = 0; gather(0, 5, 1, false) = 1; glue(0, 0) = refused 8 0; sew(0) = 89",
                "glue(0, 0) = refused 8 1; sew(0) = 83; glue(0, 0) = 30; glue(0, 0) = refused 4 1",
                "glue(0, 3) = refused 3 3");
    }

    private static void press() {
        Script.run("promise 10, the presses fill up", Steps.FOUR_GLUED,
                "press(2, 0) = 1; press(0, 0) = 2; press(1, 0) = 3; press(3, 0) = refused 2 3; press(3, 1) = 1",
                "account(4) = 4; bookOf(3, 2) = 2; bookOf(3, 7) = 2; bookOf(3, 8) = 15");
        Script.run("promise 10, the reasons in their order", Steps.FOUR_GLUED,
                "press(4, 5) = refused 3 4; press(-1, 0) = refused 3 -1; press(0, 2) = refused 3 2",
                "press(0, -1) = refused 3 -1; press(0, -2147483648) = refused 3 -2147483648; press(0, 0) = 1",
                "press(0, 1) = refused 4 2; press(0, 2) = refused 3 2; press(1, 0) = 2; press(2, 0) = 3",
                "press(2, 0) = refused 4 2; pass(30) = 1; press(3, 0) = refused 4 0; lift(0) = 2",
                "press(2, 0) = refused 4 3; deliver(2) = 0; press(2, 0) = refused 4 4");
    }

    private static void lift() {
        Script.run("promise 11, the top one, when its own glue is set", Steps.FOUR_GLUED,
                "press(0, 0) = 1; press(2, 0) = 2; press(1, 0) = 3; press(3, 1) = 1; lift(0) = refused 10 8; pass(7) = 0",
                "lift(0) = refused 10 1; pass(1) = 0; lift(0) = 1; bookOf(1, 2) = 3; bookOf(1, 7) = 1; bookOf(1, 8) = 0",
                "lift(0) = refused 10 7; lift(1) = refused 10 7; pass(10) = 0; lift(0) = 2; lift(0) = refused 10 12",
                "lift(1) = 3; lift(1) = refused 11 1; pass(12) = 0; lift(0) = 0; lift(0) = refused 11 0; account(4) = 0");
        Script.run("promise 11, a press that is none",
                "lift(2) = refused 3 2; lift(-1) = refused 3 -1; lift(2147483647) = refused 3 2147483647",
                "lift(0) = refused 11 0; lift(1) = refused 11 1");
        Script.run("promise 11, a place in the stack is free again", Steps.FOUR_GLUED,
                "press(0, 0) = 1; press(2, 0) = 2; press(1, 0) = 3; pass(8) = 0; lift(0) = 1; press(3, 0) = 3");
    }

    private static void pass() {
        Script.run("promise 14, the numbers of minutes",
                "pass(0) = refused 1 0; pass(61) = refused 1 0; pass(-1) = refused 1 0; pass(2147483647) = refused 1 0",
                "pass(1) = 0; account(0) = 1; pass(60) = 0; account(0) = 61");
        Script.run("promise 14, glued books that are in no press come loose when the glue sets", Steps.FOUR_GLUED,
                "press(3, 1) = 1; pass(7) = 0; bookOf(1, 8) = 1; bookOf(1, 2) = 1; pass(1) = 1; bookOf(1, 2) = 0",
                "bookOf(1, 4) = 0; bookOf(1, 7) = -1; bookOf(1, 8) = 0; bookOf(1, 3) = 1; account(8) = 1; bookOf(0, 8) = 22",
                "pass(22) = 2; bookOf(0, 2) = 0; bookOf(2, 2) = 0; bookOf(3, 2) = 2; bookOf(3, 8) = 0; account(8) = 3",
                "pass(60) = 0; lift(1) = 3; pass(60) = 0; bookOf(3, 2) = 3");
        Script.run("promise 14, all in one pass", Steps.FOUR_GLUED, "pass(60) = 4; account(8) = 4; account(0) = 60; account(2) = 56");
        Script.run("promise 14, unpicked as a whole",
                "book(8, 2) = 0; gather(0, 1, 1, false) = 0; gather(0, 5, 1, false) = 1; sew(0) = 89; sew(0) = 83",
                "unpick(0) = 1; sew(0) = 77; glue(0, 1) = 8; pass(9) = 1; account(8) = 3; account(7) = 23; account(2) = 77",
                "bookOf(0, 4) = 0; drop(0, 1) = 1; sew(0) = 66; glue(0, 1) = 8; pass(7) = 0; press(0, 0) = 1; pass(1) = 0");
    }

    private static void inPress() {
        Script.run("promise 27, from below", Steps.FOUR_GLUED,
                "press(2, 0) = 1; press(0, 0) = 2; press(3, 1) = 1; inPress(0, 0) = 2; inPress(0, 1) = 0; inPress(1, 0) = 3",
                "inPress(0, 2) = throws NoSuchElementException; inPress(1, 1) = throws NoSuchElementException",
                "press(1, 0) = 3; inPress(0, 2) = 1; inPress(0, 3) = throws NoSuchElementException",
                "inPress(0, -1) = throws NoSuchElementException; inPress(2, 0) = throws IndexOutOfBoundsException",
                "inPress(-1, 9) = throws IndexOutOfBoundsException; inPress(0, 2147483647) = throws NoSuchElementException",
                "pass(8) = 0; lift(0) = 1; inPress(0, 2) = throws NoSuchElementException; inPress(0, 1) = 0");
    }

    private static void ready() {
        for (String ready : new String[] {"readyIn", "readyAgain"}) {
            String call = "; " + ready;
            Script.run("promises 28 and 29, the most minutes: " + ready, Steps.FOUR_GLUED,
                    "press(2, 0) = 1; press(0, 0) = 2; press(1, 0) = 3; press(3, 1) = 1" + call + "(0) = 30" + call
                    + "(1) = 15; pass(8) = 0" + call + "(0) = 22" + call + "(1) = 7; lift(0) = 1; pass(7) = 0" + call
                    + "(1) = 0" + call + "(0) = 15; pass(14) = 0" + call + "(0) = 1; pass(1) = 0" + call
                    + "(0) = 0; pass(1) = 0" + call + "(0) = 0; lift(1) = 3" + call + "(1) = throws NoSuchElementException");
            Script.run("promises 28 and 29, wrong presses: " + ready,
                    ready + "(0) = throws NoSuchElementException" + call + "(1) = throws NoSuchElementException" + call
                    + "(2) = throws IndexOutOfBoundsException" + call + "(-1) = throws IndexOutOfBoundsException");
        }
    }
}
