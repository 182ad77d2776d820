/** Steps that many scripts begin with. */
final class Steps {
    /** A book whose only signature, the pages 1 to 4, is sewn; 89 thread are left. */
    static final String SEWN = "book(4, 2) = 0; gather(0, 1, 1, false) = 0; sew(0) = 89; ";
    /** Binds the book 0 when its signatures are sewn. */
    static final String SEWN_TO_BOUND = "glue(0, 1) = 8; press(0, 0) = 1; pass(8) = 0; lift(0) = 0; ";
    /** Binds the book 0 when all but one of its signatures are sewn. */
    static final String TO_BIND = "sew(0); " + SEWN_TO_BOUND;
    /** A book of 48 pages whose 12 signatures are all right; to sew them takes 77 of the 100 thread. */
    static final String TWELVE = "book(48, 2) = 0; " + twelve();
    /** Four books that are glued: with 30, 8, 15 and 15 minutes to set. */
    static final String FOUR_GLUED = Script.times(4, "book(4, 2)")
            + "gather(0, 1, 1, false); gather(1, 1, 1, false); gather(2, 1, 1, false); gather(3, 1, 1, false); "
            + "sew(0); sew(1); sew(2); sew(3); glue(0, 0) = 30; glue(1, 1) = 8; glue(2, 2) = 15; glue(3, 2) = 15; ";

    private Steps() {
    }

    private static String twelve() {
        StringBuilder twelve = new StringBuilder();
        for (int place = 0; place < 12; place++) {
            twelve.append("gather(0, ").append(4 * place + 1).append(", 1, false) = ").append(place).append("; ");
        }
        return twelve.toString();
    }
}
