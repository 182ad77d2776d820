import java.util.NoSuchElementException;

/** A bookbindery. What each method promises stands in the document, ../shared/DOC.md. */
public final class BookBindery {

    private static final int MOST_BOOKS = 6;
    private static final int MOST_SIGNATURES = 12;
    private static final int PRESSES = 2;
    private static final int MOST_IN_A_PRESS = 3;
    private static final int MOST_CHARACTERS = 60;
    private static final int MOST_UNDONE = 8;

    private static final int LEAST_PLANNED = 4;
    private static final int MOST_PLANNED = 96;
    private static final int LEAST_STATIONS = 2;
    private static final int MOST_STATIONS = 5;
    private static final int LAST_FIRST_PAGE = 99;
    private static final int LAST_FOLD = 3;
    // The last page of the greatest signature that begins at the last first page.
    private static final int LAST_PAGE = 114;

    private static final int GATHERED = 0;
    private static final int GLUED = 1;
    private static final int IN_A_PRESS = 2;
    private static final int BOUND = 3;
    private static final int DELIVERED = 4;

    private static final int FIRST_THREAD = 100;
    private static final int MOST_THREAD = 999;
    private static final int MOST_ADDED_THREAD = 200;
    private static final int THREAD_OF_A_STATION = 2;
    private static final int THREAD_OF_THE_BEGIN = 5;

    private static final int[] MINUTES_TO_SET = {30, 8, 15};
    private static final int LONGEST_TO_SET = 30;
    private static final int MOST_MINUTES = 60;

    private static final int FIRST_COINS = 20;
    private static final int POSITIONS_FOR_A_COIN = 8;

    private static final int OUT_OF_RANGE = 1;
    private static final int TOO_MANY = 2;
    private static final int NO_SUCH = 3;
    private static final int OTHER_STAGE = 4;
    private static final int ALREADY_SEWN = 5;
    private static final int NOTHING_TO_SEW = 6;
    private static final int TOO_LITTLE_THREAD = 7;
    private static final int NOT_SEWN = 8;
    private static final int NO_SIGNATURE = 9;
    private static final int NOT_SET = 10;
    private static final int EMPTY_PRESS = 11;
    private static final int NOT_WRONG = 12;
    private static final int SLIP_THERE = 13;
    private static final int SLIP_LACKS = 14;
    private static final int TOO_FEW_COINS = 15;

    private static final int NONE = -1;
    // No method that can be refused answers less than 0.
    private static final int REFUSED = -1;

    private final Bench bench = new Bench();
    private final Shop shop = bench.shop;
    private final History history = new History();
    private final Shop snapshot = new Shop();
    private boolean hasSnapshot;
    private final CommandText text = new CommandText();
    private int fault = NONE;
    private final StringBuilder written = new StringBuilder();
    private final int[] weights = new int[MOST_BOOKS];

    public BookBindery() {
    }

    public int book(int pages, int stations) throws UnsupportedOperationException {
        history.note(shop);
        return changedBy(bench.planBook(pages, stations));
    }

    public int gather(int book, int first, int fold, boolean isTurned) throws UnsupportedOperationException {
        history.note(shop);
        return changedBy(bench.addSignature(book, first, fold, isTurned));
    }

    public int move(int book, int place, int to) throws UnsupportedOperationException {
        history.note(shop);
        return changedBy(bench.moveSignature(book, place, to));
    }

    public int drop(int book, int place) throws UnsupportedOperationException {
        history.note(shop);
        return changedBy(bench.dropSignature(book, place));
    }

    public int spool(int length) throws UnsupportedOperationException {
        history.note(shop);
        return changedBy(bench.addThread(length));
    }

    public int sew(int book) throws UnsupportedOperationException {
        history.note(shop);
        return changedBy(bench.sewNext(book));
    }

    public int unpick(int book) throws UnsupportedOperationException {
        history.note(shop);
        return changedBy(bench.unpickLatest(book));
    }

    public int glue(int book, int glue) throws UnsupportedOperationException {
        history.note(shop);
        return changedBy(bench.applyGlue(book, glue));
    }

    public int press(int book, int press) throws UnsupportedOperationException {
        history.note(shop);
        return changedBy(bench.layInPress(book, press));
    }

    public int lift(int press) throws UnsupportedOperationException {
        history.note(shop);
        return changedBy(bench.liftTop(press));
    }

    public int slip(int book, int position) throws UnsupportedOperationException {
        history.note(shop);
        return changedBy(bench.pasteSlip(book, position));
    }

    public int deliver(int book) throws UnsupportedOperationException {
        history.note(shop);
        return changedBy(bench.handOver(book));
    }

    public int pass(int minutes) throws UnsupportedOperationException {
        history.note(shop);
        return changedBy(bench.letMinutesGoBy(minutes));
    }

    public int bookOf(int book, int what) throws IndexOutOfBoundsException, IllegalArgumentException {
        Book asked = existing(book);
        switch (what) {
            case 0: return asked.pages;
            case 1: return asked.stations;
            case 2: return asked.stage;
            case 3: return asked.signatures;
            case 4: return asked.sewn;
            case 5: return asked.positions();
            case 6: return asked.slips;
            case 7: return asked.glue;
            case 8: return asked.minutesLeft;
            default: throw new IllegalArgumentException();
        }
    }

    public int signatureOf(int book, int place, int what) throws IndexOutOfBoundsException, IllegalArgumentException {
        Book asked = withPlace(book, place);
        switch (what) {
            case 0: return asked.first[place];
            case 1: return asked.last[place];
            case 2: return asked.fold[place];
            case 3: return asked.turned[place] ? 1 : 0;
            case 4: return asked.startOf(place);
            default: throw new IllegalArgumentException();
        }
    }

    public int pageAt(int book, int position) throws IndexOutOfBoundsException {
        return withPosition(book, position).pageOn(position);
    }

    public int wrong(int book) throws IndexOutOfBoundsException {
        return existing(book).countWrong();
    }

    public int wrongAgain(int book) throws IndexOutOfBoundsException {
        return existing(book).countWrongBySignatures();
    }

    public int firstWrong(int book) throws IndexOutOfBoundsException, NoSuchElementException {
        int position = existing(book).findWrong(false);
        if (position == NONE) throw new NoSuchElementException();
        return position;
    }

    public int missing(int book) throws IndexOutOfBoundsException {
        return existing(book).countMissing();
    }

    public int missingPage(int book, int place) throws IndexOutOfBoundsException, NoSuchElementException {
        int page = existing(book).findMissing(place);
        if (page == NONE) throw new NoSuchElementException();
        return page;
    }

    public int twice(int book) throws IndexOutOfBoundsException {
        return existing(book).countRepeated();
    }

    public int rightPlace(int book, int place) throws IndexOutOfBoundsException {
        return withPlace(book, place).placeByFirstPage(place);
    }

    public int threadFor(int book) throws IndexOutOfBoundsException {
        return existing(book).threadLacking();
    }

    public boolean hasSlip(int book, int position) throws IndexOutOfBoundsException {
        return withPosition(book, position).isSlipped(position);
    }

    public int inPress(int press, int place) throws IndexOutOfBoundsException, NoSuchElementException {
        Press asked = existingPress(press);
        if (place < 0 || place >= asked.height) throw new NoSuchElementException();
        return asked.stack[place];
    }

    public int readyIn(int press) throws IndexOutOfBoundsException, NoSuchElementException {
        Press asked = filledPress(press);
        int most = 0;
        for (int place = 0; place < asked.height; place++) {
            most = Math.max(most, shop.books[asked.stack[place]].minutesLeft);
        }
        return most;
    }

    public int readyAgain(int press) throws IndexOutOfBoundsException, NoSuchElementException {
        Press asked = filledPress(press);
        int minutes = 0;
        while (minutes < LONGEST_TO_SET && !isAllSetAfter(asked, minutes)) minutes++;
        return minutes;
    }

    public int ranked(int place) throws NoSuchElementException {
        for (int number = 0; number < shop.bookCount; number++) weights[number] = shop.books[number].weight();
        for (int number = 0; number < shop.bookCount; number++) {
            if (countAheadOf(number) == place) return number;
        }
        throw new NoSuchElementException();
    }

    public int append(char character) throws IllegalStateException {
        if (text.length >= MOST_CHARACTERS) throw new IllegalStateException();
        return text.add(character);
    }

    public int commands() throws IllegalArgumentException, UnsupportedOperationException {
        fault = text.findFault();
        if (fault != NONE) {
            text.clear();
            throw new IllegalArgumentException();
        }
        history.note(shop);
        int answer = bench.carryOut(text);
        text.clear();
        // The commands ahead of the refused one have been carried out already.
        if (answer == REFUSED) history.takeBackNoted(shop);
        return changedBy(answer);
    }

    public int faultPosition() {
        return fault;
    }

    public int reason(int what) throws IllegalArgumentException, NoSuchElementException {
        if (what < 0 || what > 2) throw new IllegalArgumentException();
        if (bench.reason == 0) throw new NoSuchElementException();
        if (what == 0) return bench.reason;
        return what == 1 ? bench.detail : bench.refusedCommand;
    }

    public int line(int book) throws IndexOutOfBoundsException {
        Book asked = existing(book);
        written.setLength(0);
        written.append(book).append(':');
        for (int place = 0; place < asked.signatures; place++) {
            written.append(' ').append(asked.first[place]).append('-').append(asked.last[place]);
            if (asked.turned[place]) written.append('!');
            if (place < asked.sewn) written.append('s');
        }
        return written.length();
    }

    public char character(int index) throws IndexOutOfBoundsException {
        if (index < 0 || index >= written.length()) throw new IndexOutOfBoundsException();
        return written.charAt(index);
    }

    public float rightShare(int book) throws IndexOutOfBoundsException, ArithmeticException {
        Book asked = existing(book);
        int positions = asked.positions();
        if (positions == 0) throw new ArithmeticException();
        return (float) (positions - asked.countWrong()) / (float) positions;
    }

    public double meanSignatures() throws ArithmeticException {
        if (shop.bookCount == 0) throw new ArithmeticException();
        return (double) shop.countSignatures() / (double) shop.bookCount;
    }

    public int account(int what) throws IllegalArgumentException {
        switch (what) {
            case 0: return shop.minute;
            case 1: return shop.coins;
            case 2: return shop.thread;
            case 3: return shop.bookCount;
            case 4: return shop.countAtStage(IN_A_PRESS);
            case 5: return shop.countAtStage(DELIVERED);
            case 6: return shop.countSignatures();
            case 7: return shop.threadSewn;
            case 8: return shop.unpicked;
            case 9: return shop.slipsPasted;
            case 10: return shop.coinsBrought;
            case 11: return history.kept;
            case 12: return text.length;
            default: throw new IllegalArgumentException();
        }
    }

    public int undo() throws IllegalStateException {
        if (history.kept == 0) throw new IllegalStateException();
        history.takeBackLatest(shop);
        return history.kept;
    }

    public int save() {
        snapshot.copyFrom(shop);
        hasSnapshot = true;
        return shop.bookCount;
    }

    public int restore() throws IllegalStateException {
        if (!hasSnapshot) throw new IllegalStateException();
        shop.copyFrom(snapshot);
        history.forget();
        return shop.bookCount;
    }

    private int changedBy(int answer) {
        if (answer == REFUSED) throw new UnsupportedOperationException();
        history.keepNoted();
        return answer;
    }

    private Book existing(int number) {
        if (!shop.hasBook(number)) throw new IndexOutOfBoundsException();
        return shop.books[number];
    }

    private Book withPlace(int number, int place) {
        Book book = existing(number);
        if (!book.hasPlace(place)) throw new IndexOutOfBoundsException();
        return book;
    }

    private Book withPosition(int number, int position) {
        Book book = existing(number);
        if (!book.hasPosition(position)) throw new IndexOutOfBoundsException();
        return book;
    }

    private Press existingPress(int number) {
        if (!shop.hasPress(number)) throw new IndexOutOfBoundsException();
        return shop.presses[number];
    }

    private Press filledPress(int number) {
        Press press = existingPress(number);
        if (press.height == 0) throw new NoSuchElementException();
        return press;
    }

    private boolean isAllSetAfter(Press press, int minutes) {
        for (int place = 0; place < press.height; place++) {
            if (shop.books[press.stack[place]].minutesLeft > minutes) return false;
        }
        return true;
    }

    private int countAheadOf(int number) {
        int ahead = 0;
        for (int other = 0; other < shop.bookCount; other++) {
            boolean isHeavier = weights[other] > weights[number];
            if (isHeavier || (weights[other] == weights[number] && other < number)) ahead++;
        }
        return ahead;
    }

    /** The bench where the books are worked on: each task answers as its method does, or is refused with a reason. */
    private static final class Bench {
        final Shop shop = new Shop();
        // 0 as long as nothing was refused.
        int reason;
        int detail;
        int refusedCommand;
        private int command;

        int planBook(int pages, int stations) {
            boolean isInRange = isWithin(pages, LEAST_PLANNED, MOST_PLANNED)
                    && isWithin(stations, LEAST_STATIONS, MOST_STATIONS);
            if (!isInRange) return refuse(OUT_OF_RANGE, 0);
            if (shop.bookCount >= MOST_BOOKS) return refuse(TOO_MANY, MOST_BOOKS);
            int number = shop.bookCount;
            shop.books[number].begin(pages, stations);
            shop.bookCount++;
            return number;
        }

        int addSignature(int number, int first, int fold, boolean isTurned) {
            if (isNotLoose(number)) return REFUSED;
            Book book = shop.books[number];
            boolean isInRange = isWithin(first, 1, LAST_FIRST_PAGE) && isWithin(fold, 1, LAST_FOLD);
            if (!isInRange) return refuse(OUT_OF_RANGE, 0);
            if (book.signatures >= MOST_SIGNATURES) return refuse(TOO_MANY, MOST_SIGNATURES);
            int place = book.signatures;
            book.put(place, first, fold, isTurned);
            book.signatures++;
            return place;
        }

        int moveSignature(int number, int place, int to) {
            if (isNotLoose(number)) return REFUSED;
            Book book = shop.books[number];
            if (!book.hasPlace(place)) return refuse(NO_SUCH, place);
            if (!book.hasPlace(to)) return refuse(NO_SUCH, to);
            book.shift(place, to);
            return book.countWrong();
        }

        int dropSignature(int number, int place) {
            if (isNotLoose(number)) return REFUSED;
            Book book = shop.books[number];
            if (!book.hasPlace(place)) return refuse(NO_SUCH, place);
            book.shift(place, book.signatures - 1);
            book.signatures--;
            return book.signatures;
        }

        int addThread(int length) {
            if (!isWithin(length, 1, MOST_ADDED_THREAD)) return refuse(OUT_OF_RANGE, 0);
            shop.thread = Math.min(shop.thread + length, MOST_THREAD);
            return shop.thread;
        }

        int sewNext(int number) {
            if (isNotAt(number, GATHERED)) return REFUSED;
            Book book = shop.books[number];
            if (book.sewn >= book.signatures) return refuse(NOTHING_TO_SEW, book.signatures);
            int needed = book.threadOf(book.sewn);
            if (needed > shop.thread) return refuse(TOO_LITTLE_THREAD, needed - shop.thread);
            shop.thread -= needed;
            shop.threadSewn += needed;
            book.sewn++;
            return shop.thread;
        }

        int unpickLatest(int number) {
            if (isNotAt(number, GATHERED)) return REFUSED;
            Book book = shop.books[number];
            if (book.sewn == 0) return refuse(NOTHING_TO_SEW, book.signatures);
            book.sewn--;
            shop.unpicked++;
            return book.sewn;
        }

        int applyGlue(int number, int glue) {
            if (!shop.hasBook(number)) return refuse(NO_SUCH, number);
            if (glue < 0 || glue >= MINUTES_TO_SET.length) return refuse(NO_SUCH, glue);
            if (isNotAt(number, GATHERED)) return REFUSED;
            Book book = shop.books[number];
            if (book.signatures == 0) return refuse(NO_SIGNATURE, 0);
            if (book.sewn < book.signatures) return refuse(NOT_SEWN, book.sewn);
            book.stage = GLUED;
            book.glue = glue;
            book.minutesLeft = MINUTES_TO_SET[glue];
            return book.minutesLeft;
        }

        int layInPress(int number, int pressNumber) {
            if (!shop.hasBook(number)) return refuse(NO_SUCH, number);
            if (!shop.hasPress(pressNumber)) return refuse(NO_SUCH, pressNumber);
            if (isNotAt(number, GLUED)) return REFUSED;
            Press press = shop.presses[pressNumber];
            if (press.height >= MOST_IN_A_PRESS) return refuse(TOO_MANY, MOST_IN_A_PRESS);
            press.stack[press.height] = number;
            press.height++;
            shop.books[number].stage = IN_A_PRESS;
            return press.height;
        }

        int liftTop(int pressNumber) {
            if (!shop.hasPress(pressNumber)) return refuse(NO_SUCH, pressNumber);
            Press press = shop.presses[pressNumber];
            if (press.height == 0) return refuse(EMPTY_PRESS, pressNumber);
            int number = press.stack[press.height - 1];
            Book book = shop.books[number];
            if (book.minutesLeft > 0) return refuse(NOT_SET, book.minutesLeft);
            press.height--;
            book.stage = BOUND;
            return number;
        }

        int pasteSlip(int number, int position) {
            if (isNotAt(number, BOUND)) return REFUSED;
            Book book = shop.books[number];
            if (!book.isWrongOn(position)) return refuse(NOT_WRONG, position);
            if (book.isSlipped(position)) return refuse(SLIP_THERE, position);
            book.addSlip(position);
            shop.slipsPasted++;
            return book.slips;
        }

        int handOver(int number) {
            if (isNotAt(number, BOUND)) return REFUSED;
            Book book = shop.books[number];
            int bare = book.findWrong(true);
            if (bare != NONE) return refuse(SLIP_LACKS, bare);
            int missing = book.countMissing();
            if (missing > shop.coins) return refuse(TOO_FEW_COINS, missing - shop.coins);
            int brought = (book.positions() - book.countWrong()) / POSITIONS_FOR_A_COIN;
            shop.coins += brought - missing;
            shop.coinsBrought += brought;
            book.stage = DELIVERED;
            return brought;
        }

        int letMinutesGoBy(int minutes) {
            if (!isWithin(minutes, 1, MOST_MINUTES)) return refuse(OUT_OF_RANGE, 0);
            int loosened = 0;
            for (int minute = 0; minute < minutes; minute++) loosened += shop.letMinuteGoBy();
            return loosened;
        }

        /** Carries the commands of a text without a fault out, and answers how many they are. */
        int carryOut(CommandText text) {
            int count = text.count;
            int answer = count;
            text.rewind();
            for (int index = 0; index < count && answer != REFUSED; index++) {
                text.readNext();
                command = index;
                answer = carryOutOne(text);
            }
            command = 0;
            return answer == REFUSED ? REFUSED : count;
        }

        private int carryOutOne(CommandText text) {
            int first = text.numbers[0];
            int second = text.numbers[1];
            switch (text.letter) {
                case 'g': return addSignature(first, second, text.numbers[2], text.isTurned);
                case 's': return sewNext(first);
                case 'u': return unpickLatest(first);
                case 'l': return applyGlue(first, second);
                case 'p': return layInPress(first, second);
                case 't': return liftTop(first);
                case 'e': return pasteSlip(first, second);
                case 'd': return handOver(first);
                default: return letMinutesGoBy(first);
            }
        }

        private boolean isNotLoose(int number) {
            if (isNotAt(number, GATHERED)) return true;
            int sewn = shop.books[number].sewn;
            if (sewn > 0) refuse(ALREADY_SEWN, sewn);
            return sewn > 0;
        }

        private boolean isNotAt(int number, int stage) {
            if (!shop.hasBook(number)) {
                refuse(NO_SUCH, number);
                return true;
            }
            int itsStage = shop.books[number].stage;
            if (itsStage != stage) refuse(OTHER_STAGE, itsStage);
            return itsStage != stage;
        }

        private int refuse(int why, int itsDetail) {
            reason = why;
            detail = itsDetail;
            refusedCommand = command;
            return REFUSED;
        }

        private static boolean isWithin(int number, int least, int most) {
            return number >= least && number <= most;
        }
    }

    /** All that can be undone. */
    private static final class Shop {
        final Book[] books = new Book[MOST_BOOKS];
        final Press[] presses = new Press[PRESSES];
        int bookCount;
        int minute;
        int coins = FIRST_COINS;
        int thread = FIRST_THREAD;
        int threadSewn;
        int unpicked;
        int slipsPasted;
        int coinsBrought;

        Shop() {
            for (int number = 0; number < MOST_BOOKS; number++) books[number] = new Book();
            for (int number = 0; number < PRESSES; number++) presses[number] = new Press();
        }

        void copyFrom(Shop other) {
            for (int number = 0; number < MOST_BOOKS; number++) books[number].copyFrom(other.books[number]);
            for (int number = 0; number < PRESSES; number++) presses[number].copyFrom(other.presses[number]);
            bookCount = other.bookCount;
            minute = other.minute;
            coins = other.coins;
            thread = other.thread;
            threadSewn = other.threadSewn;
            unpicked = other.unpicked;
            slipsPasted = other.slipsPasted;
            coinsBrought = other.coinsBrought;
        }

        boolean hasBook(int number) {
            return number >= 0 && number < bookCount;
        }

        boolean hasPress(int number) {
            return number >= 0 && number < PRESSES;
        }

        int countAtStage(int stage) {
            int count = 0;
            for (int number = 0; number < bookCount; number++) {
                if (books[number].stage == stage) count++;
            }
            return count;
        }

        int countSignatures() {
            int count = 0;
            for (int number = 0; number < bookCount; number++) count += books[number].signatures;
            return count;
        }

        /** Answers how many books are gathered again. */
        int letMinuteGoBy() {
            int loosened = 0;
            minute++;
            for (int number = 0; number < bookCount; number++) {
                Book book = books[number];
                if (book.minutesLeft > 0) book.minutesLeft--;
                if (book.stage == GLUED && book.minutesLeft == 0) {
                    unpicked += book.sewn;
                    book.comeLoose();
                    loosened++;
                }
            }
            return loosened;
        }
    }

    private static final class Press {
        final int[] stack = new int[MOST_IN_A_PRESS];
        int height;

        void copyFrom(Press other) {
            System.arraycopy(other.stack, 0, stack, 0, MOST_IN_A_PRESS);
            height = other.height;
        }
    }

    private static final class Book {
        // A bit for each position; there are 192 at most.
        private static final int SLIP_ROWS = 3;
        private static final int BITS_OF_A_ROW = 64;

        int pages;
        int stations;
        int stage;
        int signatures;
        int sewn;
        int slips;
        int glue = NONE;
        int minutesLeft;
        final int[] first = new int[MOST_SIGNATURES];
        final int[] last = new int[MOST_SIGNATURES];
        final int[] fold = new int[MOST_SIGNATURES];
        final boolean[] turned = new boolean[MOST_SIGNATURES];
        private final long[] slipRows = new long[SLIP_ROWS];

        // The rest is as in a new book: what is taken back leaves nothing behind in the books that are not planned.
        void begin(int plannedPages, int plannedStations) {
            pages = plannedPages;
            stations = plannedStations;
        }

        void copyFrom(Book other) {
            pages = other.pages;
            stations = other.stations;
            stage = other.stage;
            signatures = other.signatures;
            sewn = other.sewn;
            slips = other.slips;
            glue = other.glue;
            minutesLeft = other.minutesLeft;
            for (int place = 0; place < MOST_SIGNATURES; place++) {
                put(place, other.first[place], other.fold[place], other.turned[place]);
            }
            System.arraycopy(other.slipRows, 0, slipRows, 0, SLIP_ROWS);
        }

        boolean hasPlace(int place) {
            return place >= 0 && place < signatures;
        }

        boolean hasPosition(int position) {
            return pageOn(position) != NONE;
        }

        void put(int place, int itsFirst, int itsFold, boolean isTurned) {
            first[place] = itsFirst;
            last[place] = itsFirst + (2 << itsFold) - 1;
            fold[place] = itsFold;
            turned[place] = isTurned;
        }

        void shift(int place, int to) {
            int itsFirst = first[place];
            int itsFold = fold[place];
            boolean isTurned = turned[place];
            for (int at = place; at < to; at++) put(at, first[at + 1], fold[at + 1], turned[at + 1]);
            for (int at = place; at > to; at--) put(at, first[at - 1], fold[at - 1], turned[at - 1]);
            put(to, itsFirst, itsFold, isTurned);
        }

        void comeLoose() {
            stage = GATHERED;
            sewn = 0;
            glue = NONE;
        }

        int sizeOf(int place) {
            return last[place] - first[place] + 1;
        }

        /** The position at which a signature begins, or the number of positions for the place behind the last one. */
        int startOf(int place) {
            int start = 0;
            for (int before = 0; before < place; before++) start += sizeOf(before);
            return start;
        }

        int positions() {
            return startOf(signatures);
        }

        int leafed(int place, int index) {
            return turned[place] ? last[place] - index : first[place] + index;
        }

        /** The page that comes at a position, or NONE if there is no such position. */
        int pageOn(int position) {
            if (position < 0) return NONE;
            int start = 0;
            for (int place = 0; place < signatures; place++) {
                int size = sizeOf(place);
                if (position < start + size) return leafed(place, position - start);
                start += size;
            }
            return NONE;
        }

        boolean isRight(int position, int page) {
            return page == position + 1 && page <= pages;
        }

        boolean isWrongOn(int position) {
            int page = pageOn(position);
            return page != NONE && !isRight(position, page);
        }

        int countWrong() {
            int wrong = 0;
            int position = 0;
            for (int place = 0; place < signatures; place++) {
                int size = sizeOf(place);
                for (int index = 0; index < size; index++) {
                    if (!isRight(position, leafed(place, index))) wrong++;
                    position++;
                }
            }
            return wrong;
        }

        int countWrongBySignatures() {
            int right = 0;
            int start = 0;
            for (int place = 0; place < signatures; place++) {
                right += turned[place] ? countRightTurned(place, start) : countRightUnturned(place, start);
                start += sizeOf(place);
            }
            return start - right;
        }

        private int countRightUnturned(int place, int start) {
            if (first[place] != start + 1) return 0;
            return Math.max(0, Math.min(sizeOf(place), pages - start));
        }

        // The pages fall while the positions rise, so they can meet only in the middle between them.
        private int countRightTurned(int place, int start) {
            int distance = last[place] - (start + 1);
            if (distance < 0 || distance % 2 != 0) return 0;
            int index = distance / 2;
            return index < sizeOf(place) && last[place] - index <= pages ? 1 : 0;
        }

        /** The first wrong position, or the first one without a slip, or NONE. */
        int findWrong(boolean isWithoutSlip) {
            int position = 0;
            for (int place = 0; place < signatures; place++) {
                int size = sizeOf(place);
                for (int index = 0; index < size; index++) {
                    boolean isWrong = !isRight(position, leafed(place, index));
                    if (isWrong && !(isWithoutSlip && isSlipped(position))) return position;
                    position++;
                }
            }
            return NONE;
        }

        private int countSignaturesWith(int page) {
            int count = 0;
            for (int place = 0; place < signatures; place++) {
                if (page >= first[place] && page <= last[place]) count++;
            }
            return count;
        }

        int countMissing() {
            int missing = 0;
            for (int page = 1; page <= pages; page++) {
                if (countSignaturesWith(page) == 0) missing++;
            }
            return missing;
        }

        /** The missing page with so many missing ones ahead of it, or NONE. */
        int findMissing(int ahead) {
            int missing = 0;
            for (int page = 1; page <= pages; page++) {
                if (countSignaturesWith(page) == 0) {
                    if (missing == ahead) return page;
                    missing++;
                }
            }
            return NONE;
        }

        // No signature has a page twice, so two signatures with a page are two positions.
        int countRepeated() {
            int repeated = 0;
            for (int page = 1; page <= LAST_PAGE; page++) {
                if (countSignaturesWith(page) >= 2) repeated++;
            }
            return repeated;
        }

        int placeByFirstPage(int place) {
            int ahead = 0;
            for (int other = 0; other < signatures; other++) {
                boolean isSame = first[other] == first[place];
                if (first[other] < first[place] || (isSame && other < place)) ahead++;
            }
            return ahead;
        }

        int threadOf(int place) {
            int thread = stations * (THREAD_OF_A_STATION + fold[place]);
            return place == 0 ? thread + THREAD_OF_THE_BEGIN : thread;
        }

        int threadLacking() {
            int thread = 0;
            for (int place = sewn; place < signatures; place++) thread += threadOf(place);
            return thread;
        }

        boolean isSlipped(int position) {
            int row = position / BITS_OF_A_ROW;
            if (position < 0 || row >= SLIP_ROWS) return false;
            return (slipRows[row] >>> (position % BITS_OF_A_ROW) & 1L) == 1L;
        }

        void addSlip(int position) {
            int row = position / BITS_OF_A_ROW;
            if (position < 0 || row >= SLIP_ROWS) return;
            slipRows[row] |= 1L << (position % BITS_OF_A_ROW);
            slips++;
        }

        // One wrong position outweighs all pages that can be missing.
        int weight() {
            return countWrong() * (MOST_PLANNED + 1) + countMissing();
        }
    }

    /** What there was before each of the latest changes, and before the call that is under way. */
    private static final class History {
        // One more than can be undone, so that a call that is refused drives nothing out.
        private static final int SLOTS = MOST_UNDONE + 1;

        private final Shop[] slots = new Shop[SLOTS];
        private int next;
        int kept;

        History() {
            for (int slot = 0; slot < SLOTS; slot++) slots[slot] = new Shop();
        }

        void note(Shop shop) {
            slots[next].copyFrom(shop);
        }

        void takeBackNoted(Shop shop) {
            shop.copyFrom(slots[next]);
        }

        void keepNoted() {
            next = next + 1 < SLOTS ? next + 1 : 0;
            kept = Math.min(kept + 1, MOST_UNDONE);
        }

        void takeBackLatest(Shop shop) {
            next = next > 0 ? next - 1 : SLOTS - 1;
            kept--;
            shop.copyFrom(slots[next]);
        }

        void forget() {
            kept = 0;
        }
    }

    /** The text buffer, and a reader that goes through its commands one by one. */
    private static final class CommandText {
        private static final int MOST_NUMBERS = 3;

        private final char[] characters = new char[MOST_CHARACTERS];
        int length;
        int count;
        private int at;

        char letter;
        final int[] numbers = new int[MOST_NUMBERS];
        private int numberCount;
        boolean isTurned;

        int add(char character) {
            if (length >= MOST_CHARACTERS) return length;
            characters[length] = character;
            length++;
            return length;
        }

        void clear() {
            length = 0;
        }

        void rewind() {
            at = 0;
        }

        /** Counts the commands too, up to the fault. */
        int findFault() {
            rewind();
            count = 0;
            // Each command takes a character at least, so there are no more rounds than characters.
            for (int round = 0; round <= MOST_CHARACTERS; round++) {
                if (!readCommand()) return at;
                count++;
                if (at >= length) return NONE;
                if (!take(';')) return at;
            }
            return at;
        }

        /** Reads a command of a text that has no fault, and what parts it from the next one. */
        void readNext() {
            readCommand();
            take(';');
        }

        // Where it fails, the reader stands on the character that cannot continue the text, or behind the last one.
        private boolean readCommand() {
            numberCount = 0;
            letter = at < length ? characters[at] : ' ';
            String form = formOf(letter);
            if (form.isEmpty()) return false;
            at++;
            for (int index = 0; index < form.length(); index++) {
                if (!readPart(form.charAt(index))) return false;
            }
            return true;
        }

        // What follows a letter: # stands for one digit, % for one or two, ! for a sign that can be left out.
        private static String formOf(char letter) {
            switch (letter) {
                case 'g': return "#@%:#!";
                case 's': return "#";
                case 'u': return "#";
                case 'l': return "##";
                case 'p': return "##";
                case 't': return "#";
                case 'e': return "#/%";
                case 'd': return "#";
                case 'w': return "%";
                default: return "";
            }
        }

        private boolean readPart(char part) {
            switch (part) {
                case '#': return readNumber(1);
                case '%': return readNumber(2);
                case '!':
                    isTurned = take('!');
                    return true;
                default: return take(part);
            }
        }

        private boolean readNumber(int mostDigits) {
            int number = 0;
            int digits = 0;
            while (digits < mostDigits && isAtDigit()) {
                number = number * 10 + (characters[at] - '0');
                digits++;
                at++;
            }
            if (digits == 0 || numberCount >= MOST_NUMBERS) return false;
            numbers[numberCount] = number;
            numberCount++;
            return true;
        }

        private boolean isAtDigit() {
            return at < length && characters[at] >= '0' && characters[at] <= '9';
        }

        private boolean take(char expected) {
            if (at >= length || characters[at] != expected) return false;
            at++;
            return true;
        }
    }
}
