import java.math.BigInteger;
import java.util.ArrayList;
import java.util.Arrays;
import java.util.Comparator;
import java.util.HashSet;
import java.util.List;
import java.util.Set;
import java.util.TreeSet;

/**
 * The document once more, as plainly as it can be said and by other means (kinds of places as classes, every round,
 * every move and every set tried), so that ModelTest can hold ReadersRoom against it.
 */
public final class Model {
    private static final int BAD = -1, FULL = -2, FINDING = -3, STATE = -4, SPENT = -6, NONE = -9;

    private static class Place {
    }

    private static class Seat extends Place {
        int reader;
    }

    private static final class Kept extends Seat {
        int day;
    }

    private static final class Binder extends Place {
        int till;
    }

    private static final class Wrong extends Place {
        int shelf;
    }

    private static final class Going extends Place {
        int fetcher;
        int till;
        Slip slip;
    }

    private static final class Lost extends Place {
        int since;
    }

    private static final class Book {
        int mark;
        int shelf;
        boolean rare;
        int believed;
        Place place = new Place();
    }

    private static final class Slip {
        int reader;
        int book;
        int told;
        int ended = NONE;
        int how;
        int load;
    }

    private static final class Rules {
        int told;
        int from;
        List<int[]> items = new ArrayList<>();

        /** The last item's number of a letter; NONE: none. */
        int number(int letter) {
            int number = NONE;
            for (int[] item : items) {
                if (item[0] == letter) {
                    number = item[1];
                }
            }
            return number;
        }
    }

    private final int[][] rows = new int[6][];
    private final byte[][] texts = new byte[4][];
    private final List<Book> books = new ArrayList<>();
    private final List<Slip> slips = new ArrayList<>();
    private final List<Rules> rules = new ArrayList<>();
    /** age, from, till, shift, over, told, pasted */
    private final List<int[]> lines = new ArrayList<>();
    /** book, minute, present */
    private final List<int[]> looks = new ArrayList<>();
    /** book, reader, from, till */
    private final List<int[]> hads = new ArrayList<>();
    private final List<int[]> eyes = new ArrayList<>();
    private final int[] paces = {1, 1, 1};
    private final int[] frees = {0, 0, 0};
    private final int[] findings = new int[6];
    private int[] moved = {};
    private int now;
    private int finding;
    private int asked;
    private long upper;
    private long lower = 1;
    private int seen;
    private int seenWrong;

    private int finds(int f) {
        finding = f;
        findings[f]++;
        return FINDING;
    }

    private static boolean out(int v, int least, int most) {
        return v < least || v > most;
    }

    private boolean noBook(int b) {
        return out(b, 0, books.size() - 1);
    }

    private boolean noSlip(int s) {
        return out(s, 0, slips.size() - 1);
    }

    // ---- 1

    public int row(int r, int n) {
        if (out(r, 0, 5) || n > 40) return BAD;
        if (n < 0) return finds(5);
        rows[r] = new int[n];
        return n;
    }

    public int lay(int r, int i, int v) {
        if (out(r, 0, 5)) return BAD;
        if (rows[r] == null) return finds(1);
        if (out(i, 0, rows[r].length - 1)) return finds(2);
        asked = rows[r][i];
        rows[r][i] = v;
        return 1;
    }

    public int tear(int r) {
        if (out(r, 0, 5)) return BAD;
        if (rows[r] == null) return finds(1);
        rows[r] = null;
        return 1;
    }

    public int copy(int r, int i, int to, int j, int n) {
        if (out(r, 0, 5) || out(to, 0, 5)) return BAD;
        if (n < 0) return finds(5);
        if (rows[r] == null || rows[to] == null) return finds(1);
        if (i < 0 || j < 0 || (long) i + n > rows[r].length || (long) j + n > rows[to].length) return finds(2);
        int[] taken = Arrays.copyOfRange(rows[r], i, i + n);
        for (int k = 0; k < n; k++) {
            rows[to][j + k] = taken[k];
        }
        return 1;
    }

    public int mean(int r) {
        if (out(r, 0, 5)) return BAD;
        if (rows[r] == null) return finds(1);
        if (rows[r].length == 0) return finds(4);
        asked = (int) (Arrays.stream(rows[r]).asLongStream().sum() / rows[r].length);
        return 1;
    }

    public int text(int t, int n) {
        if (out(t, 0, 3) || n > 40) return BAD;
        if (n < 0) return finds(5);
        texts[t] = new byte[n];
        Arrays.fill(texts[t], (byte) ' ');
        return n;
    }

    public int put(int t, int i, int v) {
        if (out(t, 0, 3)) return BAD;
        if (texts[t] == null) return finds(1);
        if (out(i, 0, texts[t].length - 1)) return finds(2);
        int was = texts[t][i];
        texts[t][i] = (byte) v;
        return 1000 + was;
    }

    public int later(int n) {
        if (n < 0 || (long) now + n > 99999) return BAD;
        now += n;
        for (int b = 0; b < books.size(); b++) {
            Book book = books.get(b);
            if (book.place instanceof Going going && going.till <= now) {
                Seat seat = new Seat();
                seat.reader = going.slip.reader;
                book.place = seat;
                book.believed = 1;
                going.slip.how = 2;
                going.slip.ended = going.till;
                if (hads.size() < 60) hads.add(new int[] {b, seat.reader, going.till, NONE});
            } else if (book.place instanceof Binder binder && binder.till <= now) {
                home(book);
            } else if (book.place instanceof Kept kept && now / 1440 > kept.day) {
                closeHad(b, 1440 * (kept.day + 1));
                home(book);
            }
        }
        return now;
    }

    private static void home(Book book) {
        book.place = new Place();
        book.believed = 0;
    }

    private void closeHad(int b, int minute) {
        for (int[] had : hads) {
            if (had[0] == b && had[3] == NONE) had[3] = minute;
        }
    }

    public int book(int mark, int shelf, boolean rare) {
        if (out(mark, 0, 9999) || out(shelf, 0, 7)) return BAD;
        if (books.size() == 24) return FULL;
        for (Book other : books) {
            if (other.mark == mark) return finds(3);
        }
        Book book = new Book();
        book.mark = mark;
        book.shelf = shelf;
        book.rare = rare;
        books.add(book);
        return books.size() - 1;
    }

    private static int kindOf(Book book) {
        Place p = book.place;
        return p instanceof Kept ? 2 : p instanceof Seat ? 1 : p instanceof Binder ? 3 : p instanceof Wrong ? 4
            : p instanceof Going ? 5 : p instanceof Lost ? 6 : 0;
    }

    private int[] toldAll(int b) {
        Book book = books.get(b);
        return new int[] {kindOf(book), book.mark, book.shelf, book.rare ? 1 : 0, book.believed};
    }

    public int told(int b, int what) {
        if (noBook(b) || out(what, 0, 4)) return BAD;
        asked = toldAll(b)[what];
        return 1;
    }

    public int mark(int b, int kind) {
        if (noBook(b) || out(kind, 1, 6)) return BAD;
        Place p = books.get(b).place;
        if (kind == 1 && p instanceof Seat seat) return seat.reader;
        if (kind == 2 && p instanceof Kept kept) return kept.day;
        if (kind == 3 && p instanceof Binder binder) return binder.till;
        if (kind == 4 && p instanceof Wrong wrong) return wrong.shelf;
        if (kind == 5 && p instanceof Going going) return going.fetcher;
        if (kind == 6 && p instanceof Lost lost) return lost.since;
        return finds(3);
    }

    public int has(int reader) {
        if (out(reader, 0, 7)) return BAD;
        int many = 0;
        for (Book book : books) {
            if (book.place instanceof Seat seat && seat.reader == reader) many++;
        }
        return many;
    }

    public int keep(int b) {
        if (noBook(b)) return BAD;
        if (kindOf(books.get(b)) != 1) return STATE;
        Kept kept = new Kept();
        kept.reader = ((Seat) books.get(b).place).reader;
        kept.day = now / 1440 + inForce(1);
        books.get(b).place = kept;
        return kept.day;
    }

    public int back(int b, int shelf) {
        if (noBook(b) || out(shelf, 0, 7)) return BAD;
        Book book = books.get(b);
        if (!(book.place instanceof Seat)) return STATE;
        closeHad(b, now);
        home(book);
        if (shelf == book.shelf) return 1;
        Wrong wrong = new Wrong();
        wrong.shelf = shelf;
        book.place = wrong;
        return 0;
    }

    public int bind(int b, int until) {
        if (noBook(b) || out(until, now + 1, 99999)) return BAD;
        Book book = books.get(b);
        if (kindOf(book) != 0) return STATE;
        Binder binder = new Binder();
        binder.till = until;
        book.place = binder;
        book.believed = 2;
        return 1;
    }

    public int lose(int b) {
        if (noBook(b)) return BAD;
        Book book = books.get(b);
        if (book.place instanceof Going || book.place instanceof Binder || book.place instanceof Lost) return STATE;
        closeHad(b, now);
        Lost lost = new Lost();
        lost.since = now;
        book.place = lost;
        return 1;
    }

    public int find(int b) {
        if (noBook(b)) return BAD;
        if (!(books.get(b).place instanceof Lost lost)) return STATE;
        home(books.get(b));
        return now - lost.since;
    }

    // ---- 2

    /** Items of a TEXT; a FAULT is told by one item alone, with letter NONE. */
    private static List<int[]> items(byte[] text) {
        List<int[]> items = new ArrayList<>();
        int i = 0;
        while (i < text.length) {
            if (text[i] == ' ') {
                i++;
                continue;
            }
            int letter = "QKWE".indexOf((char) text[i]);
            if (letter < 0) return List.of(new int[] {NONE, i});
            String digits = "";
            i++;
            while (i < text.length && digits.length() < 2 && text[i] >= 48 && text[i] < 58) {
                digits += (char) text[i++];
            }
            if (digits.isEmpty()) return List.of(new int[] {NONE, i});
            items.add(new int[] {letter, Integer.parseInt(digits)});
        }
        return items;
    }

    private static int faultOf(byte[] text) {
        List<int[]> items = items(text);
        return !items.isEmpty() && items.get(0)[0] == NONE ? items.get(0)[1] : NONE;
    }

    public int fault(int t) {
        if (out(t, 0, 3)) return BAD;
        return texts[t] == null ? finds(1) : faultOf(texts[t]);
    }

    public int rule(int t, int from) {
        if (out(t, 0, 3) || out(from, 0, 69)) return BAD;
        if (rules.size() == 16) return FULL;
        if (texts[t] == null) return finds(1);
        if (faultOf(texts[t]) != NONE) return STATE;
        Rules told = new Rules();
        told.told = now / 1440;
        told.from = from;
        told.items = items(texts[t]);
        rules.add(told);
        return rules.size() - 1;
    }

    /** The RULES with the latest from-DAY that tell a letter, by number. */
    private List<Integer> latest(int what, int day, int known) {
        List<Integer> all = new ArrayList<>();
        int from = -1;
        for (Rules r : rules) {
            if (r.told <= known && r.from <= day && r.number(what) != NONE) from = Math.max(from, r.from);
        }
        for (int r = 0; r < rules.size(); r++) {
            Rules told = rules.get(r);
            if (told.told <= known && told.from == from && told.number(what) != NONE) all.add(r);
        }
        return all;
    }

    private int inForce(int what) {
        return force(what, now / 1440, now / 1440);
    }

    public int force(int what, int day, int known) {
        int r = why(what, day, known);
        if (r == BAD) return BAD;
        return r == NONE ? new int[] {9, 3, 0, 0}[what] : rules.get(r).number(what);
    }

    public int why(int what, int day, int known) {
        if (out(what, 0, 3) || out(day, 0, 69) || out(known, 0, 69)) return BAD;
        List<Integer> all = latest(what, day, known);
        return all.isEmpty() ? NONE : all.get(all.size() - 1);
    }

    public int quarrel(int what, int day, int known) {
        if (out(what, 0, 3) || out(day, 0, 69) || out(known, 0, 69)) return BAD;
        List<Integer> all = latest(what, day, known);
        for (int a : all) {
            for (int b : all) {
                if (a < b && rules.get(a).number(what) != rules.get(b).number(what)) return 100 * a + b;
            }
        }
        return NONE;
    }

    // ---- 3

    public int slip(int reader, int t, int i) {
        if (out(reader, 0, 7) || out(t, 0, 3)) return BAD;
        if (slips.size() == 24) return FULL;
        if (texts[t] == null) return finds(1);
        if (out(i, 0, texts[t].length - 1)) return finds(2);
        String figures = "";
        for (int k = i; k < Math.min(i + 4, texts[t].length) && texts[t][k] >= 48 && texts[t][k] <= 57; k++) {
            figures += texts[t][k] - 48;
        }
        if (figures.isEmpty()) return finds(3);
        int b = -1;
        for (int k = 0; k < books.size(); k++) {
            if (books.get(k).mark == Integer.parseInt(figures)) b = k;
        }
        if (b < 0) return finds(1);
        int load = has(reader);
        for (Slip other : slips) {
            if (other.reader == reader && other.how <= 1) load++;
        }
        if (load + 1 > inForce(0)) return STATE;
        if (books.get(b).rare && inForce(3) > 0 && eyes(now) == 0) return STATE;
        Slip slip = new Slip();
        slip.reader = reader;
        slip.book = b;
        slip.told = now;
        slip.load = load;
        if (books.get(b).believed != 0) {
            slip.how = 3;
            slip.ended = now;
        }
        slips.add(slip);
        return slips.size() - 1;
    }

    private int[] slipAll(int s) {
        Slip slip = slips.get(s);
        return new int[] {slip.how, slip.reader, slip.book, slip.told, slip.ended};
    }

    public int slipTold(int s, int what) {
        if (noSlip(s) || out(what, 0, 4)) return BAD;
        asked = slipAll(s)[what];
        return 1;
    }

    public int pace(int f, int v) {
        if (out(f, 0, 2) || out(v, 1, 9)) return BAD;
        int was = paces[f];
        paces[f] = v;
        return was;
    }

    public int free(int f) {
        return out(f, 0, 2) ? BAD : frees[f];
    }

    public int takes(int f, int s) {
        if (out(f, 0, 2) || noSlip(s)) return BAD;
        return 2 * (books.get(slips.get(s).book).shelf / 2) * paces[f] + 4;
    }

    public int send(int f, int s) {
        if (out(f, 0, 2) || noSlip(s)) return BAD;
        Slip slip = slips.get(s);
        if (frees[f] > now || slip.how != 0 || now + takes(f, s) > 99999) return STATE;
        frees[f] = now + takes(f, s);
        Book book = books.get(slip.book);
        if (kindOf(book) == 0) {
            Going going = new Going();
            going.fetcher = f;
            going.till = frees[f];
            going.slip = slip;
            book.place = going;
            book.believed = 1;
            slip.how = 1;
            return 1;
        }
        slip.how = 3;
        slip.ended = now;
        if (book.believed == 0) {
            book.believed = 3;
            tellLook(slip.book, 0);
        }
        return 0;
    }

    private void tellLook(int b, int present) {
        if (looks.size() < 40) looks.add(new int[] {b, now, present});
    }

    private List<Integer> waiting() {
        List<Integer> all = new ArrayList<>();
        for (int s = 0; s < slips.size(); s++) {
            if (slips.get(s).how == 0) all.add(s);
        }
        return all;
    }

    public int foretell(int s) {
        if (noSlip(s)) return BAD;
        if (slips.get(s).how != 0) return STATE;
        int[] free = frees.clone();
        for (int w : waiting()) {
            int[] ends = new int[3];
            for (int f = 0; f < 3; f++) {
                ends[f] = Math.max(free[f], now) + takes(f, w);
            }
            int least = Math.min(ends[0], Math.min(ends[1], ends[2]));
            int by = ends[0] == least ? 0 : ends[1] == least ? 1 : 2;
            free[by] = least;
            if (w == s) return least - now;
        }
        return 0;
    }

    private int sum(List<Integer> waiting, int[] fetchers) {
        int sum = 0;
        for (int f = 0; f < 3; f++) {
            int by = f;
            List<Integer> his = new ArrayList<>();
            for (int k = 0; k < waiting.size(); k++) {
                if (fetchers[k] == f) his.add(waiting.get(k));
            }
            his.sort(Comparator.comparingInt(s -> takes(by, s)));
            int minute = Math.max(frees[f], now);
            for (int s : his) {
                minute += takes(f, s);
                sum += minute - now;
            }
        }
        return sum;
    }

    private int[] theRound(List<Integer> waiting) {
        int all = (int) Math.round(Math.pow(3, waiting.size()));
        int[] best = null;
        for (int code = 0; code < all; code++) {
            int[] fetchers = new int[waiting.size()];
            for (int k = waiting.size() - 1, rest = code; k >= 0; k--, rest /= 3) {
                fetchers[k] = rest % 3;
            }
            if (best == null || sum(waiting, fetchers) < sum(waiting, best)) best = fetchers;
        }
        return best;
    }

    public int round() {
        List<Integer> waiting = waiting();
        return waiting.size() > 6 ? SPENT : sum(waiting, theRound(waiting));
    }

    public int roundOf(int s) {
        if (noSlip(s)) return BAD;
        List<Integer> waiting = waiting();
        if (waiting.size() > 6) return SPENT;
        int at = waiting.indexOf(s);
        return at < 0 ? NONE : theRound(waiting)[at];
    }

    public int judge(int r) {
        if (out(r, 0, 5)) return BAD;
        if (rows[r] == null) return finds(1);
        List<Integer> waiting = waiting();
        if (rows[r].length != waiting.size()) return finds(5);
        for (int f : rows[r]) {
            if (out(f, 0, 2)) return finds(3);
        }
        return sum(waiting, rows[r]);
    }

    public int first(int b) {
        if (noBook(b)) return BAD;
        int w = inForce(2);
        return waiting().stream().filter(s -> slips.get(s).book == b)
            .min(Comparator.comparingInt((Integer s) -> w == 0 ? 0 : w == 1 ? has(slips.get(s).reader)
                : slips.get(s).reader).thenComparingInt(s -> s)).orElse(NONE);
    }

    public int beside(int q) {
        return out(q, 0, 99) ? BAD : (int) slips.stream().filter(s -> s.load + 1 > q).count();
    }

    public int crowd(int day) {
        if (out(day, 0, 69)) return BAD;
        return (int) slips.stream().filter(s -> s.told / 1440 == day).map(s -> s.reader).distinct().count();
    }

    // ---- 4

    public int line(int age, int from, int till, int shift, int over) {
        if (out(age, 0, 2) || out(from, 0, 9999) || out(till, from, 9999) || out(shift, -9999, 9999)) return BAD;
        if (over != NONE && out(over, 0, lines.size() - 1)) return BAD;
        if (lines.size() == 20) return FULL;
        if (over != NONE && lines.get(over)[6] != NONE) return STATE;
        if (over != NONE) lines.get(over)[6] = now;
        lines.add(new int[] {age, from, till, shift, over, now, NONE});
        return lines.size() - 1;
    }

    private void todays(int age, int mark, int known, TreeSet<Integer> into) {
        if (age == 3) {
            into.add(mark);
            return;
        }
        for (int[] l : lines) {
            boolean told = l[5] <= known && !(l[6] != NONE && l[6] <= known);
            if (told && l[0] == age && !out(mark, l[1], l[2]) && !out(mark + l[3], 0, 9999)) {
                todays(age + 1, mark + l[3], known, into);
            }
        }
    }

    public int today(int age, int mark, int known) {
        if (out(age, 0, 3) || out(mark, 0, 9999) || out(known, 0, now)) return BAD;
        TreeSet<Integer> all = new TreeSet<>();
        todays(age, mark, known, all);
        return all.size();
    }

    public int turned(int age, int mark, int known, int i) {
        if (out(age, 0, 3) || out(mark, 0, 9999) || out(known, 0, now)) return BAD;
        TreeSet<Integer> all = new TreeSet<>();
        todays(age, mark, known, all);
        return out(i, 0, all.size() - 1) ? NONE : new ArrayList<>(all).get(i);
    }

    // ---- 5

    public int along(int shelf) {
        if (out(shelf, 0, 7)) return BAD;
        int stood = 0;
        asked = 0;
        for (int b = 0; b < books.size(); b++) {
            Book book = books.get(b);
            if (book.place instanceof Wrong wrong) {
                if (wrong.shelf == shelf) {
                    stood++;
                    home(book);
                    tellLook(b, 1);
                    seen++;
                    continue;
                }
            }
            if (book.shelf != shelf) continue;
            if (kindOf(book) == 0) {
                tellLook(b, 1);
                seen++;
            } else if (book.believed == 0 && (book.place instanceof Wrong || book.place instanceof Lost)) {
                tellLook(b, 0);
                book.believed = 3;
                asked++;
            }
        }
        seenWrong += stood;
        return stood;
    }

    public int likely(int b, int shelf) {
        if (noBook(b) || out(shelf, 0, 7)) return BAD;
        Book book = books.get(b);
        if (book.shelf == shelf) return 0;
        int answer = book.shelf / 2 == shelf / 2 ? 1 : 0;
        List<Book> sorted = new ArrayList<>(books);
        sorted.sort(Comparator.comparingInt(o -> o.mark));
        int at = sorted.indexOf(book);
        if (at > 0 && sorted.get(at - 1).shelf == shelf) answer += 4;
        if (at + 1 < sorted.size() && sorted.get(at + 1).shelf == shelf) answer += 4;
        Set<String> changed = new HashSet<>();
        String own = String.format("%04d", book.mark);
        for (int k = 0; k < 3; k++) {
            changed.add(own.substring(0, k) + own.charAt(k + 1) + own.charAt(k) + own.substring(k + 2));
        }
        changed.remove(own);
        int last = -1;
        for (int[] had : hads) {
            if (had[0] == b) last = had[1];
        }
        Set<Integer> his = new HashSet<>();
        for (int[] had : hads) {
            if (had[1] == last) his.add(had[0]);
        }
        for (int o = 0; o < books.size(); o++) {
            if (books.get(o).shelf != shelf || o == b) continue;
            if (changed.contains(String.format("%04d", books.get(o).mark))) answer += 3;
            if (his.contains(o)) answer += 2;
        }
        return answer;
    }

    public int search(int b, int r, int m) {
        if (noBook(b) || out(r, 0, 5) || out(m, 0, 480)) return BAD;
        if (rows[r] == null) return finds(1);
        if (rows[r].length != 8) return finds(5);
        for (int v : rows[r]) {
            if (out(v, 1, 60)) return finds(3);
        }
        int[] best = {0, 0, 0};
        int[] worths = new int[8];
        for (int s = 0; s < 8; s++) {
            worths[s] = likely(b, s);
        }
        for (int bits = 255; bits >= 0; bits--) {
            int[] tried = {bits, 0, 0};
            for (int s = 0; s < 8; s++) {
                if ((bits & 1 << s) != 0) {
                    tried[1] += worths[s];
                    tried[2] += rows[r][s];
                }
            }
            boolean better = tried[1] > best[1] || tried[1] == best[1]
                && (tried[2] < best[2] || tried[2] == best[2] && tried[0] < best[0]);
            if (tried[2] <= m && better) best = tried;
        }
        asked = best[1];
        return best[0];
    }

    public int wrong() {
        if (seen == 0) return finds(4);
        long up = (long) seenWrong * books.size();
        long by = BigInteger.valueOf(up).gcd(BigInteger.valueOf(seen)).longValue();
        upper = up / by;
        lower = seen / by;
        return seen;
    }

    private List<int[]> looksOf(int b) {
        return looks.stream().filter(l -> l[0] == b).toList();
    }

    public int look(int b, int i, int what) {
        if (noBook(b) || out(what, 0, 1)) return BAD;
        List<int[]> his = looksOf(b);
        return out(i, 0, his.size() - 1) ? NONE : his.get(i)[1 + what];
    }

    // ---- 6

    public int move(int many, int at, int rooms) {
        if (out(many, 0, 5) || out(at, 0, 5) || out(rooms, 0, 5)) return BAD;
        int[] a = rows[many];
        int[] p = rows[at];
        int[] r = rows[rooms];
        if (a == null || p == null || r == null) return finds(1);
        if (a.length < 1 || a.length > 12 || p.length != a.length || r.length != 8) return finds(5);
        if (Arrays.stream(a).anyMatch(v -> out(v, 0, 99)) || Arrays.stream(p).anyMatch(v -> out(v, 0, 7))
            || Arrays.stream(r).anyMatch(v -> out(v, 0, 999))) return finds(3);
        int[] best = tryAll(a, p, r.clone(), new int[a.length], 0, null);
        if (best == null) return NONE;
        moved = best;
        return carried(a, p, best);
    }

    private static int carried(int[] a, int[] p, int[] to) {
        int carried = 0;
        for (int i = 0; i < a.length; i++) {
            carried += to[i] == p[i] ? 0 : a[i];
        }
        return carried;
    }

    private static int[] tryAll(int[] a, int[] p, int[] left, int[] to, int i, int[] best) {
        if (i == a.length) return best == null || carried(a, p, to) < carried(a, p, best) ? to.clone() : best;
        for (int shelf = i == 0 ? 0 : to[i - 1]; shelf < 8; shelf++) {
            if (a[i] <= left[shelf]) {
                left[shelf] -= a[i];
                to[i] = shelf;
                best = tryAll(a, p, left, to, i + 1, best);
                left[shelf] += a[i];
            }
        }
        return best;
    }

    public int moved(int i) {
        return out(i, 0, moved.length - 1) ? NONE : moved[i];
    }

    public int eye(int from, int till) {
        if (out(from, 0, 99999) || out(till, from, 99999)) return BAD;
        if (eyes.size() == 12) return FULL;
        eyes.add(new int[] {from, till});
        return eyes.size();
    }

    public int eyes(int minute) {
        return out(minute, 0, 99999) ? BAD : (int) eyes.stream().filter(e -> !out(minute, e[0], e[1])).count();
    }

    /** The two LOOKS' minutes; null: there are no such two. */
    private int[] goneBetween(int b) {
        int[] between = null;
        for (int[] l : looksOf(b)) {
            if (l[2] == 1) {
                between = new int[] {l[1], NONE};
            } else if (between != null && between[1] == NONE) {
                between[1] = l[1];
            }
        }
        return between == null || between[1] == NONE ? null : between;
    }

    public int gone(int b) {
        if (noBook(b)) return BAD;
        int[] between = goneBetween(b);
        if (between == null) return NONE;
        asked = between[0];
        return between[1] - between[0];
    }

    public int hands(int b) {
        if (noBook(b)) return BAD;
        int[] between = goneBetween(b);
        if (between == null) return NONE;
        int bits = 0;
        for (int[] had : hads) {
            int till = had[3] == NONE ? Integer.MAX_VALUE : had[3];
            if (had[0] == b && Math.max(had[2], between[0]) <= Math.min(till, between[1])) bits |= 1 << had[1];
        }
        return bits;
    }

    // ---- 7

    public int asked() {
        return asked;
    }

    public long upper() {
        return upper;
    }

    public long lower() {
        return lower;
    }

    public int count(int what) {
        if (out(what, 0, 9)) return BAD;
        int there = (int) Arrays.stream(rows).filter(r -> r != null).count();
        int read = (int) Arrays.stream(texts).filter(t -> t != null).count();
        return new int[] {now, books.size(), slips.size(), rules.size(), lines.size(), looks.size(), hads.size(),
            eyes.size(), there, read}[what];
    }

    public int finding() {
        return finding;
    }

    public int findings(int f) {
        return out(f, 1, 5) ? BAD : findings[f];
    }

    public long digest() {
        List<Integer> all = new ArrayList<>();
        for (int what = 0; what < 10; what++) {
            all.add(count(what));
        }
        for (int b = 0; b < books.size(); b++) {
            Arrays.stream(toldAll(b)).forEach(all::add);
            int kind = kindOf(books.get(b));
            all.add(kind == 0 ? 0 : mark(b, kind));
        }
        for (int s = 0; s < slips.size(); s++) {
            Arrays.stream(slipAll(s)).forEach(all::add);
        }
        for (int f = 0; f < 3; f++) {
            all.addAll(List.of(paces[f], frees[f]));
        }
        rules.forEach(r -> all.addAll(List.of(r.told, r.from)));
        lines.forEach(l -> Arrays.stream(l, 0, 5).forEach(all::add));
        looks.forEach(l -> Arrays.stream(l).forEach(all::add));
        hads.forEach(l -> Arrays.stream(l).forEach(all::add));
        eyes.forEach(l -> Arrays.stream(l).forEach(all::add));
        for (int[] row : rows) {
            all.add(row == null ? -1 : row.length);
            if (row != null) Arrays.stream(row).forEach(all::add);
        }
        for (byte[] text : texts) {
            all.add(text == null ? -1 : text.length);
            for (int i = 0; text != null && i < text.length; i++) {
                all.add((int) text[i]);
            }
        }
        long h = 17;
        for (int v : all) {
            h = 31 * h + v;
        }
        return h;
    }
}
