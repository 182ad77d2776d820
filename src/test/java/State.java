import java.util.NoSuchElementException;

/** All that can be seen of an object without changing it. */
final class State {
    final String undoable;
    final String history;
    final String text;
    final String fault;
    final String reason;
    final String line;
    private final StringBuilder unequalWays = new StringBuilder();

    State(BookBindery bindery) {
        undoable = undoable(bindery);
        history = "changes " + bindery.account(11);
        text = "characters " + bindery.account(12);
        fault = "fault " + bindery.faultPosition();
        reason = reason(bindery);
        line = line(bindery);
    }

    /** What differs and must not, or null. A text empties the buffer and sets the fault position also if it is refused. */
    String differsFrom(State other, String method, String got, boolean isChange) {
        boolean isThrown = got.startsWith("throws ");
        boolean isRefused = got.equals("throws UnsupportedOperationException");
        boolean isText = method.equals("commands");
        boolean isAppended = method.equals("append") && !isThrown;
        boolean isWritten = method.equals("line") && !isThrown;
        if (!isChange && !undoable.equals(other.undoable)) return "\n" + other.undoable + "\nto\n" + undoable;
        if (!isChange && !history.equals(other.history)) return history;
        if (!isWritten && !line.equals(other.line)) return "line " + line;
        if (!isText && !isAppended && !text.equals(other.text)) return text;
        if (!isText && !fault.equals(other.fault)) return fault;
        if (isText && !text.equals("characters 0")) return text;
        if (!isRefused && !reason.equals(other.reason)) return "reason " + reason;
        return null;
    }

    void checkSecondWays(String label) {
        if (unequalWays.length() > 0) Script.tell(label + ", then: " + unequalWays);
    }

    static String line(BookBindery bindery) {
        StringBuilder line = new StringBuilder();
        for (int index = 0; true; index++) {
            try {
                line.append(bindery.character(index));
            } catch (IndexOutOfBoundsException e) {
                return line.toString();
            }
        }
    }

    private static String reason(BookBindery bindery) {
        try {
            return bindery.reason(0) + " " + bindery.reason(1) + " " + bindery.reason(2);
        } catch (NoSuchElementException e) {
            return "none";
        }
    }

    private String undoable(BookBindery bindery) {
        StringBuilder all = new StringBuilder();
        for (int what = 0; what <= 10; what++) all.append(bindery.account(what)).append(' ');
        for (int book = 0; book < bindery.account(3); book++) addBook(all.append("\nbook "), bindery, book);
        for (int press = 0; press < 2; press++) addPress(all.append("\npress "), bindery, press);
        return all.toString();
    }

    private void addBook(StringBuilder all, BookBindery bindery, int book) {
        for (int what = 0; what <= 8; what++) all.append(bindery.bookOf(book, what)).append(' ');
        for (int place = 0; place < bindery.bookOf(book, 3); place++) {
            all.append("[");
            for (int what = 0; what <= 4; what++) all.append(bindery.signatureOf(book, place, what)).append(' ');
            all.append("]");
        }
        for (int position = 0; position < bindery.bookOf(book, 5); position++) {
            if (bindery.hasSlip(book, position)) all.append(" slip ").append(position);
        }
        if (bindery.wrong(book) != bindery.wrongAgain(book)) unequalWays.append("wrong, wrongAgain of ").append(book);
    }

    private void addPress(StringBuilder all, BookBindery bindery, int press) {
        try {
            for (int place = 0; true; place++) all.append(bindery.inPress(press, place)).append(' ');
        } catch (NoSuchElementException e) {
            all.append('.');
        }
        if (all.toString().endsWith("press .")) return;
        if (bindery.readyIn(press) != bindery.readyAgain(press)) unequalWays.append("readyIn, readyAgain of ").append(press);
    }
}
