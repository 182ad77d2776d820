/** Promise 39: account. */
public final class AccountTest {
    public static void main(String[] args) {
        Script.run("promise 39, each account",
                "book(16, 2) = 0; book(4, 3) = 1; book(4, 2) = 2; account(3) = 3; gather(0, 1, 3, false) = 0",
                "gather(1, 2, 1, false) = 0; gather(2, 1, 1, false) = 0; gather(2, 5, 1, false) = 1; account(6) = 4",
                "sew(0) = 85; sew(1) = 71; sew(2) = 60; sew(2) = 54; unpick(2) = 1; sew(2) = 48; account(2) = 48; account(7) = 52",
                "account(8) = 1; glue(0, 1) = 8; glue(1, 1) = 8; glue(2, 2) = 15; press(0, 0) = 1; press(1, 0) = 2",
                "account(4) = 2; pass(20) = 1; account(0) = 20; account(8) = 3; account(4) = 2; lift(0) = 1; account(4) = 1",
                "lift(0) = 0; account(4) = 0; account(5) = 0; deliver(0) = 2; account(5) = 1; account(1) = 22; account(10) = 2",
                "slip(1, 0) = 1; slip(1, 1) = 2; slip(1, 2) = 3; slip(1, 3) = 4; account(9) = 4; deliver(1) = 0; account(5) = 2",
                "account(1) = 21; account(10) = 2; account(3) = 3; account(11) = 8; append('x') = 1; account(12) = 1",
                "account(7) = 52; account(2) = 48");
        Script.run("promise 39, the changes that can be undone",
                "account(11) = 0; book(4, 2) = 0; account(11) = 1; gather(0, 1, 1, false); move(0, 0, 0); account(11) = 3",
                "sew(0); unpick(0); sew(0); glue(0, 0); account(11) = 7; press(0, 0); account(11) = 8; pass(30); account(11) = 8",
                "lift(1) = refused 11 1; account(11) = 8; lift(0) = 0; save() = 1; line(0); account(11) = 8; undo() = 7; account(11) = 7",
                "deliver(0) = refused 4 2; account(11) = 7; restore() = 1; account(11) = 0");
        Script.run("promise 39, of all six books",
                Script.times(6, "book(4, 2)"), "gather(5, 1, 1, false); gather(0, 1, 1, false); account(6) = 2; account(3) = 6",
                "meanSignatures() = 0.3333333333333333; sew(5); glue(5, 1); press(5, 0); pass(8); account(4) = 1; lift(0) = 5",
                "deliver(5) = 0; account(5) = 1; account(4) = 0");
        Script.run("promise 39, numbers that are no accounts",
                "account(13) = throws IllegalArgumentException; account(-1) = throws IllegalArgumentException",
                "account(2147483647) = throws IllegalArgumentException; account(-2147483648) = throws IllegalArgumentException");
        Script.finish("AccountTest");
    }
}
