import java.util.ArrayDeque;
import java.util.ArrayList;
import java.util.Comparator;
import java.util.Deque;
import java.util.HashSet;
import java.util.List;
import java.util.NoSuchElementException;
import java.util.Set;
import java.util.TreeSet;
import java.util.regex.Matcher;
import java.util.regex.Pattern;

/** The document a second time, in another way: pages in lists, glue by the minute at which it sets, texts by a pattern. */
final class Model {
    private static final String COMMAND =
            "(?:g\\d@\\d\\d?:\\d!?|s\\d|u\\d|l\\d\\d|p\\d\\d|t\\d|e\\d/\\d\\d?|d\\d|w\\d\\d?)";
    private static final Pattern TEXT = Pattern.compile(COMMAND + "(?:;" + COMMAND + ")*");

    private record Signature(int first, int fold, boolean isTurned) {
        List<Integer> pages() {
            List<Integer> pages = new ArrayList<>();
            int size = fold == 1 ? 4 : fold == 2 ? 8 : 16;
            for (int i = 0; i < size; i++) pages.add(isTurned ? 0 : i, first + i);
            if (isTurned) pages.sort(Comparator.reverseOrder());
            return pages;
        }
    }

    private static final class Book {
        int pages;
        int stations;
        int stage;
        int sewn;
        int glue = -1;
        int setAt;
        final List<Signature> signatures = new ArrayList<>();
        final Set<Integer> slips = new HashSet<>();

        Book copy() {
            Book copy = new Book();
            copy.pages = pages;
            copy.stations = stations;
            copy.stage = stage;
            copy.sewn = sewn;
            copy.glue = glue;
            copy.setAt = setAt;
            copy.signatures.addAll(signatures);
            copy.slips.addAll(slips);
            return copy;
        }

        List<Integer> leafed() {
            List<Integer> all = new ArrayList<>();
            for (Signature signature : signatures) all.addAll(signature.pages());
            return all;
        }

        List<Integer> wrong() {
            List<Integer> leafed = leafed();
            List<Integer> wrong = new ArrayList<>();
            for (int i = 0; i < leafed.size(); i++) {
                if (leafed.get(i) != i + 1 || leafed.get(i) > pages) wrong.add(i);
            }
            return wrong;
        }

        List<Integer> missing() {
            Set<Integer> missing = new TreeSet<>();
            for (int page = 1; page <= pages; page++) missing.add(page);
            missing.removeAll(new HashSet<>(leafed()));
            return new ArrayList<>(missing);
        }

        int thread(int from, int to) {
            int thread = 0;
            for (int place = from; place < to; place++) {
                for (int station = 0; station < stations; station++) thread += 2 + signatures.get(place).fold;
                if (place == 0) thread += 5;
            }
            return thread;
        }
    }

    private static final class World {
        List<Book> books = new ArrayList<>();
        List<List<Integer>> presses = new ArrayList<>(List.of(new ArrayList<>(), new ArrayList<>()));
        int minute;
        int coins = 20;
        int thread = 100;
        int threadSewn;
        int unpicked;
        int slips;
        int brought;

        World copy() {
            World copy = new World();
            for (Book book : books) copy.books.add(book.copy());
            for (int i = 0; i < 2; i++) copy.presses.get(i).addAll(presses.get(i));
            copy.minute = minute;
            copy.coins = coins;
            copy.thread = thread;
            copy.threadSewn = threadSewn;
            copy.unpicked = unpicked;
            copy.slips = slips;
            copy.brought = brought;
            return copy;
        }

        int left(Book book) {
            return book.glue < 0 ? 0 : Math.max(0, book.setAt - minute);
        }
    }

    private static final class Refused extends Exception {
        private static final long serialVersionUID = 1;
        final int reason;
        final int detail;

        Refused(int reason, int detail) {
            this.reason = reason;
            this.detail = detail;
        }
    }

    private World now = new World();
    private World saved = null;
    private final Deque<World> before = new ArrayDeque<>();
    private String text = "";
    private int fault = -1;
    private int[] reason = null;
    private String line = "";
    private int command = 0;

    /** The answer of a call as a text; a boolean parameter counts 1 or 0. */
    String answer(String name, int... p) {
        try {
            return switch (name) {
                case "book", "gather", "move", "drop", "spool", "sew", "unpick", "glue", "press", "lift", "slip",
                    "deliver", "pass" -> String.valueOf(change(name, p));
                case "commands" -> String.valueOf(commands());
                case "append" -> append((char) p[0]);
                case "line" -> line(p[0]);
                case "undo" -> undo();
                case "save" -> save();
                case "restore" -> restore();
                default -> String.valueOf(ask(name, p));
            };
        } catch (Refused e) {
            reason = new int[] {e.reason, e.detail, command};
            command = 0;
            return "throws UnsupportedOperationException";
        } catch (IndexOutOfBoundsException e) {
            return "throws IndexOutOfBoundsException";
        } catch (IllegalArgumentException e) {
            return "throws IllegalArgumentException";
        } catch (NoSuchElementException e) {
            return "throws NoSuchElementException";
        } catch (ArithmeticException e) {
            return "throws ArithmeticException";
        } catch (IllegalStateException e) {
            return "throws IllegalStateException";
        }
    }

    private int change(String name, int[] p) throws Refused {
        World old = now.copy();
        int answer = carryOut(name, p);
        keep(old);
        return answer;
    }

    private void keep(World old) {
        before.addLast(old);
        if (before.size() > 8) before.removeFirst();
    }

    private int commands() throws Refused {
        String taken = text;
        text = "";
        fault = fault(taken);
        if (fault >= 0) throw new IllegalArgumentException();
        World old = now.copy();
        String[] parts = taken.split(";");
        try {
            for (command = 0; command < parts.length; command++) carryOutText(parts[command]);
        } catch (Refused e) {
            now = old;
            throw e;
        }
        command = 0;
        keep(old);
        return parts.length;
    }

    private static int fault(String taken) {
        for (int length = 1; length <= taken.length(); length++) {
            Matcher matcher = TEXT.matcher(taken.substring(0, length));
            if (!matcher.matches() && !matcher.hitEnd()) return length - 1;
        }
        return TEXT.matcher(taken).matches() ? -1 : taken.length();
    }

    private void carryOutText(String part) throws Refused {
        List<Integer> n = new ArrayList<>();
        char kind = part.charAt(0);
        boolean isPair = kind == 'l' || kind == 'p';
        Matcher numbers = Pattern.compile(isPair ? "\\d" : "\\d+").matcher(part);
        while (numbers.find()) n.add(Integer.parseInt(numbers.group()));
        switch (kind) {
            case 'g' -> carryOut("gather", n.get(0), n.get(1), n.get(2), part.endsWith("!") ? 1 : 0);
            case 's' -> carryOut("sew", n.get(0));
            case 'u' -> carryOut("unpick", n.get(0));
            case 'l' -> carryOut("glue", n.get(0), n.get(1));
            case 'p' -> carryOut("press", n.get(0), n.get(1));
            case 't' -> carryOut("lift", n.get(0));
            case 'e' -> carryOut("slip", n.get(0), n.get(1));
            case 'd' -> carryOut("deliver", n.get(0));
            default -> carryOut("pass", n.get(0));
        }
    }

    private static void refuseIf(boolean applies, int reason, int detail) throws Refused {
        if (applies) throw new Refused(reason, detail);
    }

    private Book bookAt(int number, int stage) throws Refused {
        refuseIf(number < 0 || number >= now.books.size(), 3, number);
        Book book = now.books.get(number);
        refuseIf(stage >= 0 && book.stage != stage, 4, book.stage);
        return book;
    }

    private Book loose(int number) throws Refused {
        Book book = bookAt(number, 0);
        refuseIf(book.sewn > 0, 5, book.sewn);
        return book;
    }

    private int carryOut(String name, int... p) throws Refused {
        switch (name) {
            case "book": {
                refuseIf(p[0] < 4 || p[0] > 96 || p[1] < 2 || p[1] > 5, 1, 0);
                refuseIf(now.books.size() == 6, 2, 6);
                Book book = new Book();
                book.pages = p[0];
                book.stations = p[1];
                now.books.add(book);
                return now.books.size() - 1;
            }
            case "gather": {
                Book book = loose(p[0]);
                refuseIf(p[1] < 1 || p[1] > 99 || p[2] < 1 || p[2] > 3, 1, 0);
                refuseIf(book.signatures.size() == 12, 2, 12);
                book.signatures.add(new Signature(p[1], p[2], p[3] == 1));
                return book.signatures.size() - 1;
            }
            case "move": {
                Book book = loose(p[0]);
                refuseIf(p[1] < 0 || p[1] >= book.signatures.size(), 3, p[1]);
                refuseIf(p[2] < 0 || p[2] >= book.signatures.size(), 3, p[2]);
                book.signatures.add(p[2], book.signatures.remove(p[1]));
                return book.wrong().size();
            }
            case "drop": {
                Book book = loose(p[0]);
                refuseIf(p[1] < 0 || p[1] >= book.signatures.size(), 3, p[1]);
                book.signatures.remove(p[1]);
                return book.signatures.size();
            }
            case "spool":
                refuseIf(p[0] < 1 || p[0] > 200, 1, 0);
                now.thread = Math.min(999, now.thread + p[0]);
                return now.thread;
            case "sew": {
                Book book = bookAt(p[0], 0);
                refuseIf(book.sewn == book.signatures.size(), 6, book.sewn);
                int needed = book.thread(book.sewn, book.sewn + 1);
                refuseIf(needed > now.thread, 7, needed - now.thread);
                now.thread -= needed;
                now.threadSewn += needed;
                book.sewn++;
                return now.thread;
            }
            case "unpick": {
                Book book = bookAt(p[0], 0);
                refuseIf(book.sewn == 0, 6, book.signatures.size());
                now.unpicked++;
                return --book.sewn;
            }
            default:
                return carryOutLater(name, p);
        }
    }

    private int carryOutLater(String name, int[] p) throws Refused {
        switch (name) {
            case "glue": {
                bookAt(p[0], -1);
                refuseIf(p[1] < 0 || p[1] > 2, 3, p[1]);
                Book book = bookAt(p[0], 0);
                refuseIf(book.signatures.isEmpty(), 9, 0);
                refuseIf(book.sewn < book.signatures.size(), 8, book.sewn);
                book.stage = 1;
                book.glue = p[1];
                book.setAt = now.minute + List.of(30, 8, 15).get(p[1]);
                return book.setAt - now.minute;
            }
            case "press": {
                bookAt(p[0], -1);
                refuseIf(p[1] != 0 && p[1] != 1, 3, p[1]);
                Book book = bookAt(p[0], 1);
                List<Integer> stack = now.presses.get(p[1]);
                refuseIf(stack.size() == 3, 2, 3);
                stack.add(p[0]);
                book.stage = 2;
                return stack.size();
            }
            case "lift": {
                refuseIf(p[0] != 0 && p[0] != 1, 3, p[0]);
                List<Integer> stack = now.presses.get(p[0]);
                refuseIf(stack.isEmpty(), 11, p[0]);
                Book book = now.books.get(stack.get(stack.size() - 1));
                refuseIf(now.left(book) > 0, 10, now.left(book));
                book.stage = 3;
                return stack.remove(stack.size() - 1);
            }
            case "slip": {
                Book book = bookAt(p[0], 3);
                refuseIf(!book.wrong().contains(p[1]), 12, p[1]);
                refuseIf(book.slips.contains(p[1]), 13, p[1]);
                book.slips.add(p[1]);
                now.slips++;
                return book.slips.size();
            }
            case "deliver": {
                Book book = bookAt(p[0], 3);
                for (int position : book.wrong()) refuseIf(!book.slips.contains(position), 14, position);
                int missing = book.missing().size();
                refuseIf(missing > now.coins, 15, missing - now.coins);
                int brings = (book.leafed().size() - book.wrong().size()) / 8;
                now.coins = now.coins - missing + brings;
                now.brought += brings;
                book.stage = 4;
                return brings;
            }
            default: {
                refuseIf(p[0] < 1 || p[0] > 60, 1, 0);
                now.minute += p[0];
                int loosened = 0;
                for (Book book : now.books) {
                    if (book.stage != 1 || book.setAt > now.minute) continue;
                    loosened++;
                    now.unpicked += book.signatures.size();
                    book.stage = 0;
                    book.sewn = 0;
                    book.glue = -1;
                }
                return loosened;
            }
        }
    }

    private String append(char character) {
        if (text.length() == 60) throw new IllegalStateException();
        text += character;
        return String.valueOf(text.length());
    }

    private String line(int number) {
        Book book = now.books.get(number);
        line = number + ":";
        for (int place = 0; place < book.signatures.size(); place++) {
            Signature signature = book.signatures.get(place);
            List<Integer> pages = new ArrayList<>(new TreeSet<>(signature.pages()));
            line += " " + pages.get(0) + "-" + pages.get(pages.size() - 1) + (signature.isTurned ? "!" : "")
                    + (place < book.sewn ? "s" : "");
        }
        return String.valueOf(line.length());
    }

    private String undo() {
        if (before.isEmpty()) throw new IllegalStateException();
        now = before.removeLast();
        return String.valueOf(before.size());
    }

    private String save() {
        saved = now.copy();
        return String.valueOf(now.books.size());
    }

    private String restore() {
        if (saved == null) throw new IllegalStateException();
        now = saved.copy();
        before.clear();
        return String.valueOf(now.books.size());
    }

    private Object ask(String name, int[] p) {
        return switch (name) {
            case "account" -> account(p[0]);
            case "faultPosition" -> fault;
            case "reason" -> reason(p[0]);
            case "character" -> line.charAt(known(p[0], line.length()));
            case "inPress", "readyIn", "readyAgain" -> askPress(name, now.presses.get(p[0]), p);
            case "ranked" -> ranked(p[0]);
            case "meanSignatures" -> mean();
            default -> askBook(name, now.books.get(p[0]), p);
        };
    }

    private static int known(int index, int size) {
        if (index < 0 || index >= size) throw new IndexOutOfBoundsException();
        return index;
    }

    private static int element(List<Integer> list, int index) {
        if (index < 0 || index >= list.size()) throw new NoSuchElementException();
        return list.get(index);
    }

    private static int chosen(int what, int... numbers) {
        if (what < 0 || what >= numbers.length) throw new IllegalArgumentException();
        return numbers[what];
    }

    private int reason(int what) {
        if (what < 0 || what > 2) throw new IllegalArgumentException();
        if (reason == null) throw new NoSuchElementException();
        return reason[what];
    }

    private int account(int what) {
        int signatures = 0;
        int delivered = 0;
        for (Book book : now.books) {
            signatures += book.signatures.size();
            if (book.stage == 4) delivered++;
        }
        int pressed = now.presses.get(0).size() + now.presses.get(1).size();
        return chosen(what, now.minute, now.coins, now.thread, now.books.size(), pressed, delivered, signatures,
                now.threadSewn, now.unpicked, now.slips, now.brought, before.size(), text.length());
    }

    private int askPress(String name, List<Integer> stack, int[] p) {
        if (name.equals("inPress")) return element(stack, p[1]);
        int most = 0;
        for (int number : stack) most = Math.max(most, now.left(now.books.get(number)));
        if (stack.isEmpty()) throw new NoSuchElementException();
        return most;
    }

    private int ranked(int place) {
        List<Integer> numbers = new ArrayList<>();
        for (int number = 0; number < now.books.size(); number++) numbers.add(number);
        numbers.sort(Comparator.comparingInt((Integer number) -> -now.books.get(number).wrong().size())
                .thenComparingInt(number -> -now.books.get(number).missing().size()));
        return element(numbers, place);
    }

    private double mean() {
        if (now.books.isEmpty()) throw new ArithmeticException();
        return now.books.stream().mapToInt(book -> book.signatures.size()).sum() / (double) now.books.size();
    }

    private Object askBook(String name, Book book, int[] p) {
        List<Integer> leafed = book.leafed();
        switch (name) {
            case "bookOf":
                return chosen(p[1], book.pages, book.stations, book.stage, book.signatures.size(), book.sewn, leafed.size(),
                        book.slips.size(), book.glue, now.left(book));
            case "signatureOf": {
                Signature s = book.signatures.get(p[1]);
                int start = 0;
                for (int place = 0; place < p[1]; place++) start += book.signatures.get(place).pages().size();
                return chosen(p[2], s.first, s.first + s.pages().size() - 1, s.fold, s.isTurned ? 1 : 0, start);
            }
            case "pageAt": return leafed.get(p[1]);
            case "wrong":
            case "wrongAgain": return book.wrong().size();
            case "firstWrong": return element(book.wrong(), 0);
            case "missing": return book.missing().size();
            case "missingPage": return element(book.missing(), p[1]);
            case "twice": {
                Set<Integer> once = new HashSet<>();
                Set<Integer> twice = new HashSet<>();
                for (int page : leafed) if (!once.add(page)) twice.add(page);
                return twice.size();
            }
            case "rightPlace": {
                Signature asked = book.signatures.get(p[1]);
                List<Integer> places = new ArrayList<>();
                for (int place = 0; place < book.signatures.size(); place++) places.add(place);
                places.sort(Comparator.comparingInt(place -> book.signatures.get(place).first));
                if (asked == null) throw new IllegalStateException();
                return places.indexOf(p[1]);
            }
            case "threadFor": return book.thread(book.sewn, book.signatures.size());
            case "hasSlip": return book.slips.contains(known(p[1], leafed.size()));
            case "rightShare":
                if (leafed.isEmpty()) throw new ArithmeticException();
                return (leafed.size() - book.wrong().size()) / (float) leafed.size();
            default: throw new AssertionError(name);
        }
    }
}
