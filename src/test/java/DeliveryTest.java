/** Promises 12, 13 and 26: slip, deliver and hasSlip. */
public final class DeliveryTest {
    public static void main(String[] args) {
        slip();
        hasSlip();
        deliver();
        coins();
        Script.finish("DeliveryTest");
    }

    private static void slip() {
        Script.run("promise 12, wrong positions of a bound book",
                "book(6, 2) = 0; gather(0, 1, 2, false) = 0", Steps.TO_BIND,
                "slip(0, 5) = refused 12 5; slip(0, 7) = 1; slip(0, 6) = 2; slip(0, 7) = refused 13 7",
                "slip(0, 8) = refused 12 8; slip(0, -1) = refused 12 -1; slip(0, 2147483647) = refused 12 2147483647",
                "slip(0, -2147483648) = refused 12 -2147483648; slip(0, 0) = refused 12 0; bookOf(0, 6) = 2",
                "account(9) = 2; undo() = 7; bookOf(0, 6) = 1; account(9) = 1; slip(0, 6) = 2");
        Script.run("promise 12, at other stages",
                "slip(0, 0) = refused 3 0; book(4, 2) = 0; slip(0, 0) = refused 4 0; gather(0, 2, 1, true) = 0",
                "slip(0, 0) = refused 4 0; sew(0) = 89; glue(0, 1) = 8; slip(0, 0) = refused 4 1; press(0, 0) = 1",
                "slip(0, 9) = refused 4 2; pass(8) = 0; lift(0) = 0; slip(0, 2) = refused 12 2; slip(0, 0) = 1",
                "slip(0, 1) = 2; slip(0, 3) = 3; deliver(0) = 0; slip(0, 3) = refused 4 4; slip(-1, 3) = refused 3 -1",
                "slip(1, 3) = refused 3 1");
        Script.run("promise 12, a slip at each of 192 positions",
                "spool(200); spool(200); book(96, 2) = 0", Script.times(12, "gather(0, 90, 3, false)"),
                Script.times(11, "sew(0)"), Steps.TO_BIND, slips(192), "bookOf(0, 6) = 192; account(9) = 192",
                "slip(0, 191) = refused 13 191; slip(0, 192) = refused 12 192; slip(0, 0) = refused 13 0");
    }

    private static String slips(int count) {
        StringBuilder slips = new StringBuilder();
        for (int position = 0; position < count; position++) {
            slips.append("hasSlip(0, ").append(position).append(") = false; slip(0, ").append(position).append(") = ")
                    .append(position + 1).append("; hasSlip(0, ").append(position).append(") = true; ");
        }
        return slips.toString();
    }

    private static void hasSlip() {
        Script.run("promise 26, positions",
                "hasSlip(0, 0) = throws IndexOutOfBoundsException; book(4, 2) = 0; hasSlip(0, 0) = throws IndexOutOfBoundsException",
                "gather(0, 3, 1, false) = 0; hasSlip(0, 0) = false; hasSlip(0, 3) = false",
                "hasSlip(0, 4) = throws IndexOutOfBoundsException; hasSlip(0, -1) = throws IndexOutOfBoundsException",
                "hasSlip(0, 2147483647) = throws IndexOutOfBoundsException; hasSlip(1, 0) = throws IndexOutOfBoundsException",
                "hasSlip(-1, 0) = throws IndexOutOfBoundsException",
                Steps.TO_BIND, "slip(0, 3) = 1; hasSlip(0, 3) = true; hasSlip(0, 2) = false; undo() = 7; hasSlip(0, 3) = false");
        Script.run("promise 26, slips belong to their book",
                "book(4, 2) = 0; book(4, 2) = 1; gather(0, 5, 1, false) = 0; gather(1, 5, 1, false) = 0",
                Steps.TO_BIND, "slip(0, 2) = 1; hasSlip(0, 2) = true; hasSlip(1, 2) = false; bookOf(1, 6) = 0");
    }

    private static void deliver() {
        Script.run("promise 13, each wrong position needs a slip",
                "book(4, 2) = 0; gather(0, 2, 1, true) = 0", Steps.TO_BIND,
                "deliver(0) = refused 14 0; slip(0, 0) = 1; deliver(0) = refused 14 1; slip(0, 3) = 2",
                "deliver(0) = refused 14 1; slip(0, 1) = 3; missing(0) = 1; deliver(0) = 0; account(1) = 19",
                "account(5) = 1; bookOf(0, 2) = 4; account(10) = 0; deliver(0) = refused 4 4");
        Script.run("promise 13, at other stages",
                "deliver(0) = refused 3 0; book(4, 2) = 0; deliver(0) = refused 4 0; gather(0, 1, 1, false) = 0",
                "sew(0) = 89; glue(0, 1) = 8; deliver(0) = refused 4 1; press(0, 0) = 1; deliver(0) = refused 4 2",
                "pass(8) = 0; deliver(0) = refused 4 2; lift(0) = 0; deliver(1) = refused 3 1; deliver(-1) = refused 3 -1",
                "deliver(0) = 0");
        Script.run("promise 13, a coin for each 8 right positions",
                "book(16, 2) = 0; gather(0, 1, 3, false) = 0", Steps.TO_BIND, "deliver(0) = 2; account(1) = 22; account(10) = 2",
                "undo() = 7; account(1) = 20; account(10) = 0; account(5) = 0; bookOf(0, 2) = 3");
        Script.run("promise 13, 15 right positions of 16 bring one coin",
                "book(15, 2) = 0; gather(0, 1, 3, false) = 0", Steps.TO_BIND,
                "deliver(0) = refused 14 15; slip(0, 15) = 1; deliver(0) = 1; account(1) = 21");
    }

    private static void coins() {
        Script.run("promise 13, too few coins for the missing pages, which what it brings does not make up for",
                "book(38, 2) = 0; gather(0, 1, 3, false) = 0", Steps.TO_BIND,
                "missing(0) = 22; deliver(0) = refused 15 2; account(1) = 20; bookOf(0, 2) = 3");
        Script.run("promise 13, just enough coins",
                "book(36, 2) = 0; gather(0, 1, 3, false) = 0", Steps.TO_BIND,
                "missing(0) = 20; deliver(0) = 2; account(1) = 2; account(10) = 2");
        Script.run("promise 13, one coin too few, and a slip that lacks comes first",
                "book(37, 2) = 0; gather(0, 1, 3, false) = 0", Steps.TO_BIND, "deliver(0) = refused 15 1",
                "book(40, 2) = 1; gather(1, 2, 1, false) = 0; sew(1); glue(1, 1); press(1, 1); pass(8); lift(1) = 1",
                "deliver(1) = refused 14 0");
    }
}
