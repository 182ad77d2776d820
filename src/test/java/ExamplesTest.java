/** The document's five examples. */
public final class ExamplesTest {
    public static void main(String[] args) {
        Script.run("example 1, a book from gathering to delivery",
                "book(8, 2) = 0; gather(0, 5, 1, false) = 0; gather(0, 1, 1, false) = 1; wrong(0) = 8",
                "move(0, 0, 1) = 0; sew(0) = 89; sew(0) = 83; glue(0, 1) = 8; press(0, 0) = 1; pass(8) = 0",
                "lift(0) = 0; deliver(0) = 1");
        Script.run("example 2, a gathering upside down",
                "book(8, 2) = 0; gather(0, 3, 2, true) = 0; wrong(0) = 8; wrongAgain(0) = 8; missing(0) = 2; line(0) = 8");
        Script.run("example 3, a book that fails",
                "book(4, 5) = 0; gather(0, 1, 1, false) = 0; sew(0) = 80; account(2) = 80; glue(0, 1) = 8; pass(8) = 1",
                "bookOf(0, 2) = 0; account(8) = 1");
        Script.run("example 4, glue too early",
                "book(4, 2) = 0; glue(0, 0) = throws UnsupportedOperationException; reason(0) = 9",
                "gather(0, 1, 1, false) = 0; glue(0, 0) = throws UnsupportedOperationException",
                "reason(0) = 8; reason(1) = 0");
        Script.run("example 5, a text with a fault",
                "append('g') = 1; append('x') = 2; commands() = throws IllegalArgumentException; faultPosition() = 1",
                "lift(0) = throws UnsupportedOperationException; reason(0) = 11");
        Script.finish("ExamplesTest");
    }
}
