/** Promises 35 and 36: line and character. */
public final class LineTest {
    public static void main(String[] args) {
        Script.run("promise 35, the document's line",
                "book(16, 2) = 0; gather(0, 1, 2, false) = 0; gather(0, 9, 2, true) = 1; sew(0); line(0) = 13",
                "shown() = \"0: 1-8s 9-16!\"; sew(0); line(0) = 14; shown() = \"0: 1-8s 9-16!s\"; glue(0, 0); line(0) = 14",
                "shown() = \"0: 1-8s 9-16!s\"; pass(30) = 1; line(0) = 12; shown() = \"0: 1-8 9-16!\"");
        Script.run("promise 35, in place of the line before, which stays otherwise",
                "book(96, 2) = 0; book(4, 2) = 1; gather(0, 99, 3, true) = 0; line(0) = 10; shown() = \"0: 99-114!\"; line(1) = 2",
                "shown() = \"1:\"; line(0) = 10; line(2) = throws IndexOutOfBoundsException; line(-1) = throws IndexOutOfBoundsException",
                "shown() = \"0: 99-114!\"; drop(0, 0) = 0; save() = 2; undo() = 3; undo() = 2; restore() = 2; shown() = \"0: 99-114!\"");
        Script.run("promise 35, the longest line",
                "book(96, 2) = 0", Script.times(12, "gather(0, 99, 3, true)"), Script.times(8, "spool(200)"),
                Script.times(12, "sew(0)"), "line(0) = 110; shown() = \"0:" + " 99-114!s".repeat(12) + "\"; character(109) = s");
        Script.run("promise 36, the characters of the line",
                "character(0) = throws IndexOutOfBoundsException; book(4, 2) = 0; character(0) = throws IndexOutOfBoundsException",
                "gather(0, 5, 1, false) = 0; line(0) = 6; character(0) = 0; character(1) = :; character(3) = 5; character(4) = -",
                "character(5) = 8; character(6) = throws IndexOutOfBoundsException; character(-1) = throws IndexOutOfBoundsException",
                "character(2147483647) = throws IndexOutOfBoundsException; drop(0, 0) = 0; character(5) = 8; line(0) = 2",
                "character(2) = throws IndexOutOfBoundsException");
        Script.finish("LineTest");
    }
}
