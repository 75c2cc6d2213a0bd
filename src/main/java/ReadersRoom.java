import java.util.ArrayList;

/**
 * A round room of readers over shelves on floors: books, slips, fetchers, rules, a catalogue, looks and eyes.
 * The numbered promises that the public methods keep stand in the project's document.
 */
public final class ReadersRoom {
    public static final int BAD = -1, FULL = -2, FINDING = -3, STATE = -4, SPENT = -6, NONE = -9;

    private static final int NOTHING = 1, BEYOND = 2, UNLIKE = 3, NOUGHT = 4, SIZE = 5;
    private static final int ON_SHELF = 0, SEAT = 1, KEPT = 2, BINDER = 3, WRONG = 4, GOING = 5, LOST = 6;
    private static final int BELIEVED_THERE = 0, BELIEVED_READ = 1, BELIEVED_BOUND = 2, BELIEVED_MISSING = 3;
    private static final int WAITS = 0, GOES = 1, DONE = 2, TURNED = 3;
    private static final int Q = 0, K = 1, W = 2, E = 3;

    private static final int ROWS = 6, TEXTS = 4, PLACES = 40, BLANK = 32;
    private static final int LAST_MINUTE = 99999, MINUTES_OF_DAY = 1440, LAST_DAY = 69;
    private static final int SHELVES = 8, READERS = 8, FETCHERS = 3, LAST_PACE = 9;
    private static final int LAST_MARK = 9999, TODAYS_AGE = 3, FIGURES = 4;
    private static final int LETTERS = 4, LAST_OF_Q = 99;
    private static final int MOST_BOOKS = 24, MOST_SLIPS = 24, MOST_RULES = 16, MOST_LINES = 20;
    private static final int MOST_LOOKS = 40, MOST_HAD = 60, MOST_EYES = 12;
    private static final int MOST_IN_ROUND = 6, MOST_CLASSES = 12, MOST_OF_CLASS = 99, MOST_ROOM = 999;
    private static final int LAST_SHELF_MINUTES = 60, LAST_SEARCH_MINUTES = 480;
    private static final int NO_WAY = 1000000, MOST_STEPS = 1000;

    private final Row[] rows = new Row[ROWS];
    private final Row[] texts = new Row[TEXTS];
    private final ArrayList<Book> books = new ArrayList<>();
    private final ArrayList<Slip> slips = new ArrayList<>();
    private final ArrayList<Rule> rules = new ArrayList<>();
    private final ArrayList<Look> looks = new ArrayList<>();
    private final ArrayList<Had> hads = new ArrayList<>();
    private final ArrayList<Eye> watches = new ArrayList<>();
    private final Catalogue catalogue = new Catalogue();
    private final Rounds rounds = new Rounds();
    private final Mover mover = new Mover();
    private final int[] paces = {1, 1, 1};
    private final int[] freeFrom = new int[FETCHERS];
    private final int[] timesFound = new int[SIZE + 1];
    private int now = 0;
    private int lastFinding = 0;
    private int lastAsked = 0;
    private long lastUpper = 0;
    private long lastLower = 1;
    private int seenAlong = 0;
    private int stoodWrong = 0;

    public ReadersRoom() {
        for (int r = 0; r < ROWS; r++) {
            rows[r] = new Row();
        }
        for (int t = 0; t < TEXTS; t++) {
            texts[t] = new Row();
        }
    }

    // ---- 1 rows, texts, books

    public int row(int r, int n) {
        Row row = rowAt(r);
        if (row == null || n > PLACES) {
            return BAD;
        }
        if (n < 0) {
            return found(SIZE);
        }
        row.begin(n, 0);
        return n;
    }

    public int lay(int r, int i, int v) {
        Row row = rowAt(r);
        if (row == null) {
            return BAD;
        }
        if (row.isMissing()) {
            return found(NOTHING);
        }
        if (!row.hasPlace(i)) {
            return found(BEYOND);
        }
        lastAsked = row.places[i];
        row.places[i] = v;
        return 1;
    }

    public int tear(int r) {
        Row row = rowAt(r);
        if (row == null) {
            return BAD;
        }
        if (row.isMissing()) {
            return found(NOTHING);
        }
        row.size = -1;
        return 1;
    }

    public int copy(int r, int i, int to, int j, int n) {
        Row source = rowAt(r);
        Row target = rowAt(to);
        if (source == null || target == null) {
            return BAD;
        }
        if (n < 0) {
            return found(SIZE);
        }
        if (source.isMissing() || target.isMissing()) {
            return found(NOTHING);
        }
        if (!source.hasPlaces(i, n) || !target.hasPlaces(j, n)) {
            return found(BEYOND);
        }
        System.arraycopy(source.places, i, target.places, j, n);
        return 1;
    }

    public int mean(int r) {
        Row row = rowAt(r);
        if (row == null) {
            return BAD;
        }
        if (row.isMissing()) {
            return found(NOTHING);
        }
        if (row.size == 0) {
            return found(NOUGHT);
        }
        lastAsked = (int) (row.sum() / row.size);
        return 1;
    }

    public int text(int t, int n) {
        Row text = textAt(t);
        if (text == null || n > PLACES) {
            return BAD;
        }
        if (n < 0) {
            return found(SIZE);
        }
        text.begin(n, BLANK);
        return n;
    }

    public int put(int t, int i, int v) {
        Row text = textAt(t);
        if (text == null) {
            return BAD;
        }
        if (text.isMissing()) {
            return found(NOTHING);
        }
        if (!text.hasPlace(i)) {
            return found(BEYOND);
        }
        int was = text.places[i];
        text.places[i] = (byte) v;
        return was + 1000;
    }

    public int later(int n) {
        if (n < 0 || n > LAST_MINUTE - now) {
            return BAD;
        }
        now += n;
        for (int b = 0; b < books.size(); b++) {
            letArrive(books.get(b));
        }
        return now;
    }

    public int book(int mark, int shelf, boolean rare) {
        if (!isMark(mark) || !isShelf(shelf)) {
            return BAD;
        }
        if (books.size() >= MOST_BOOKS) {
            return FULL;
        }
        if (bookMarked(mark) != null) {
            return found(UNLIKE);
        }
        int number = books.size();
        books.add(new Book(number, mark, shelf, rare));
        return number;
    }

    public int told(int b, int what) {
        Book book = bookAt(b);
        if (book == null || what < 0 || what > 4) {
            return BAD;
        }
        lastAsked = book.tells(what);
        return 1;
    }

    public int mark(int b, int kind) {
        Book book = bookAt(b);
        if (book == null || kind <= ON_SHELF || kind > LOST) {
            return BAD;
        }
        if (kind == SEAT && book.isHad()) {
            return book.reader;
        }
        return kind == book.kind ? book.detail : found(UNLIKE);
    }

    public int has(int reader) {
        return isReader(reader) ? countHadBy(reader) : BAD;
    }

    public int keep(int b) {
        Book book = bookAt(b);
        if (book == null) {
            return BAD;
        }
        if (book.kind != SEAT) {
            return STATE;
        }
        book.comeTo(KEPT, dayOf(now) + inForceNow(K));
        return book.detail;
    }

    public int back(int b, int shelf) {
        Book book = bookAt(b);
        if (book == null || !isShelf(shelf)) {
            return BAD;
        }
        if (!book.isHad()) {
            return STATE;
        }
        book.endHad(now);
        if (shelf == book.shelf) {
            book.comeHome();
            return 1;
        }
        book.comeTo(WRONG, shelf);
        return 0;
    }

    public int bind(int b, int until) {
        Book book = bookAt(b);
        if (book == null || until <= now || until > LAST_MINUTE) {
            return BAD;
        }
        if (book.kind != ON_SHELF) {
            return STATE;
        }
        book.comeTo(BINDER, until);
        return 1;
    }

    public int lose(int b) {
        Book book = bookAt(b);
        if (book == null) {
            return BAD;
        }
        if (book.kind != ON_SHELF && book.kind != WRONG && !book.isHad()) {
            return STATE;
        }
        if (book.isHad()) {
            book.endHad(now);
        }
        book.comeTo(LOST, now);
        return 1;
    }

    public int find(int b) {
        Book book = bookAt(b);
        if (book == null) {
            return BAD;
        }
        if (book.kind != LOST) {
            return STATE;
        }
        int since = book.detail;
        book.comeHome();
        return now - since;
    }

    // ---- 2 rules

    public int fault(int t) {
        Row text = textAt(t);
        if (text == null) {
            return BAD;
        }
        if (text.isMissing()) {
            return found(NOTHING);
        }
        return readItems(text, new int[LETTERS]);
    }

    public int rule(int t, int from) {
        Row text = textAt(t);
        if (text == null || !isDay(from)) {
            return BAD;
        }
        if (rules.size() >= MOST_RULES) {
            return FULL;
        }
        if (text.isMissing()) {
            return found(NOTHING);
        }
        Rule rule = new Rule(dayOf(now), from);
        if (readItems(text, rule.numbers) != NONE) {
            return STATE;
        }
        rules.add(rule);
        return rules.size() - 1;
    }

    public int force(int what, int day, int known) {
        return isLetter(what) && isDay(day) && isDay(known) ? inForce(what, day, known) : BAD;
    }

    public int why(int what, int day, int known) {
        return isLetter(what) && isDay(day) && isDay(known) ? ruleInForce(what, day, known) : BAD;
    }

    public int quarrel(int what, int day, int known) {
        if (!isLetter(what) || !isDay(day) || !isDay(known)) {
            return BAD;
        }
        int latest = ruleInForce(what, day, known);
        if (latest < 0 || latest >= rules.size()) {
            return NONE;
        }
        int from = rules.get(latest).from;
        for (int a = 0; a < latest; a++) {
            if (rules.get(a).tellsFrom(what, from, known)) {
                int other = unlikeBehind(a, what, from, known);
                if (other != NONE) {
                    return 100 * a + other;
                }
            }
        }
        return NONE;
    }

    // ---- 3 slips, fetchers, rounds

    public int slip(int reader, int t, int i) {
        Row text = textAt(t);
        if (!isReader(reader) || text == null) {
            return BAD;
        }
        if (slips.size() >= MOST_SLIPS) {
            return FULL;
        }
        if (text.isMissing()) {
            return found(NOTHING);
        }
        if (!text.hasPlace(i)) {
            return found(BEYOND);
        }
        int wanted = readMark(text, i);
        if (wanted == NONE) {
            return found(UNLIKE);
        }
        Book book = bookMarked(wanted);
        if (book == null) {
            return found(NOTHING);
        }
        int load = loadOf(reader);
        if (load >= inForceNow(Q) || isForbidden(book)) {
            return STATE;
        }
        Slip slip = new Slip(reader, book, now, load);
        if (book.believed != BELIEVED_THERE) {
            slip.end(TURNED, now);
        }
        slips.add(slip);
        return slips.size() - 1;
    }

    public int slipTold(int s, int what) {
        Slip slip = slipAt(s);
        if (slip == null || what < 0 || what > 4) {
            return BAD;
        }
        lastAsked = slip.tells(what);
        return 1;
    }

    public int pace(int f, int v) {
        if (!isFetcher(f) || v < 1 || v > LAST_PACE) {
            return BAD;
        }
        int was = paces[f];
        paces[f] = v;
        return was;
    }

    public int free(int f) {
        return isFetcher(f) ? freeFrom[f] : BAD;
    }

    public int takes(int f, int s) {
        Slip slip = slipAt(s);
        if (!isFetcher(f) || slip == null) {
            return BAD;
        }
        return minutesToBring(slip.book.floor(), paces[f]);
    }

    public int send(int f, int s) {
        Slip slip = slipAt(s);
        if (!isFetcher(f) || slip == null) {
            return BAD;
        }
        Book book = slip.book;
        int till = now + minutesToBring(book.floor(), paces[f]);
        if (freeFrom[f] > now || slip.how != WAITS || till > LAST_MINUTE) {
            return STATE;
        }
        freeFrom[f] = till;
        if (book.kind == ON_SHELF) {
            slip.how = GOES;
            book.comeTo(GOING, f);
            book.goingTill = till;
            book.goingFor = slip;
            return 1;
        }
        slip.end(TURNED, now);
        if (book.believed == BELIEVED_THERE) {
            book.believed = BELIEVED_MISSING;
            tellLook(book, 0);
        }
        return 0;
    }

    public int foretell(int s) {
        Slip slip = slipAt(s);
        if (slip == null) {
            return BAD;
        }
        if (slip.how != WAITS) {
            return STATE;
        }
        gatherRounds();
        return rounds.foretold(waitingAheadOf(s));
    }

    public int round() {
        gatherRounds();
        if (rounds.many > MOST_IN_ROUND) {
            return SPENT;
        }
        rounds.workOut();
        return rounds.least;
    }

    public int roundOf(int s) {
        Slip slip = slipAt(s);
        if (slip == null) {
            return BAD;
        }
        gatherRounds();
        if (rounds.many > MOST_IN_ROUND) {
            return SPENT;
        }
        if (slip.how != WAITS) {
            return NONE;
        }
        rounds.workOut();
        return rounds.best[waitingAheadOf(s)];
    }

    public int judge(int r) {
        Row row = rowAt(r);
        if (row == null) {
            return BAD;
        }
        if (row.isMissing()) {
            return found(NOTHING);
        }
        gatherRounds();
        if (row.size != rounds.many) {
            return found(SIZE);
        }
        if (!row.isWithin(0, FETCHERS - 1)) {
            return found(UNLIKE);
        }
        return rounds.sumOf(row.places);
    }

    public int first(int b) {
        Book book = bookAt(b);
        if (book == null) {
            return BAD;
        }
        int way = Math.min(inForceNow(W), 2);
        int least = 0;
        int answer = NONE;
        for (int s = 0; s < slips.size(); s++) {
            Slip slip = slips.get(s);
            if (slip.how == WAITS && slip.book.number == book.number) {
                int rank = rankOf(slip, way);
                if (answer == NONE || rank < least) {
                    least = rank;
                    answer = s;
                }
            }
        }
        return answer;
    }

    public int beside(int q) {
        if (q < 0 || q > LAST_OF_Q) {
            return BAD;
        }
        int refused = 0;
        for (int s = 0; s < slips.size(); s++) {
            if (slips.get(s).load >= q) {
                refused++;
            }
        }
        return refused;
    }

    public int crowd(int day) {
        if (!isDay(day)) {
            return BAD;
        }
        int readers = 0;
        for (int s = 0; s < slips.size(); s++) {
            Slip slip = slips.get(s);
            if (dayOf(slip.toldAt) == day) {
                readers |= 1 << slip.reader;
            }
        }
        return Integer.bitCount(readers);
    }

    // ---- 4 marks of other ages

    public int line(int age, int from, int till, int shift, int over) {
        if (age < 0 || age >= TODAYS_AGE || !isMark(from) || !isMark(till) || till < from) {
            return BAD;
        }
        if (shift < -LAST_MARK || shift > LAST_MARK || over != NONE && !catalogue.hasLine(over)) {
            return BAD;
        }
        if (catalogue.lines.size() >= MOST_LINES) {
            return FULL;
        }
        if (over != NONE && catalogue.isPastedOver(over)) {
            return STATE;
        }
        return catalogue.paste(new Line(age, from, till, shift, over, now));
    }

    public int today(int age, int mark, int known) {
        if (!isKnowable(age, mark, known)) {
            return BAD;
        }
        catalogue.follow(age, mark, known);
        return catalogue.many;
    }

    public int turned(int age, int mark, int known, int i) {
        if (!isKnowable(age, mark, known)) {
            return BAD;
        }
        catalogue.follow(age, mark, known);
        return i >= 0 && i < catalogue.many ? catalogue.marks[i] : NONE;
    }

    // ---- 5 looks

    public int along(int shelf) {
        if (!isShelf(shelf)) {
            return BAD;
        }
        int wrongHere = 0;
        int absent = 0;
        for (int b = 0; b < books.size(); b++) {
            Book book = books.get(b);
            if (book.kind == WRONG && book.detail == shelf) {
                book.comeHome();
                wrongHere++;
                seenAlong++;
                tellLook(book, 1);
            } else if (book.shelf == shelf && book.kind == ON_SHELF) {
                seenAlong++;
                tellLook(book, 1);
            } else if (book.shelf == shelf && book.believed == BELIEVED_THERE) {
                book.believed = BELIEVED_MISSING;
                absent++;
                tellLook(book, 0);
            }
        }
        stoodWrong += wrongHere;
        lastAsked = absent;
        return wrongHere;
    }

    public int likely(int b, int shelf) {
        Book book = bookAt(b);
        return book == null || !isShelf(shelf) ? BAD : likelihood(book, shelf);
    }

    public int search(int b, int r, int m) {
        Book book = bookAt(b);
        Row row = rowAt(r);
        if (book == null || row == null || m < 0 || m > LAST_SEARCH_MINUTES) {
            return BAD;
        }
        if (row.isMissing()) {
            return found(NOTHING);
        }
        if (row.size != SHELVES) {
            return found(SIZE);
        }
        if (!row.isWithin(1, LAST_SHELF_MINUTES)) {
            return found(UNLIKE);
        }
        int[] worths = new int[SHELVES];
        for (int shelf = 0; shelf < SHELVES; shelf++) {
            worths[shelf] = likelihood(book, shelf);
        }
        int bits = bestShelves(worths, row.places, m);
        lastAsked = sumOfBits(worths, bits);
        return bits;
    }

    public int wrong() {
        if (seenAlong == 0) {
            return found(NOUGHT);
        }
        tellFraction((long) stoodWrong * books.size(), seenAlong);
        return seenAlong;
    }

    public int look(int b, int i, int what) {
        Book book = bookAt(b);
        if (book == null || what < 0 || what > 1) {
            return BAD;
        }
        int ahead = 0;
        for (int l = 0; l < looks.size(); l++) {
            Look look = looks.get(l);
            if (look.book == book.number) {
                if (ahead == i) {
                    return what == 0 ? look.minute : look.present;
                }
                ahead++;
            }
        }
        return NONE;
    }

    // ---- 6 shelves moved, eyes

    public int move(int many, int at, int rooms) {
        Row sizes = rowAt(many);
        Row places = rowAt(at);
        Row room = rowAt(rooms);
        if (sizes == null || places == null || room == null) {
            return BAD;
        }
        if (sizes.isMissing() || places.isMissing() || room.isMissing()) {
            return found(NOTHING);
        }
        if (sizes.size < 1 || sizes.size > MOST_CLASSES || places.size != sizes.size || room.size != SHELVES) {
            return found(SIZE);
        }
        if (!sizes.isWithin(0, MOST_OF_CLASS) || !places.isWithin(0, SHELVES - 1) || !room.isWithin(0, MOST_ROOM)) {
            return found(UNLIKE);
        }
        return mover.carry(sizes, places, room);
    }

    public int moved(int i) {
        return i >= 0 && i < mover.classes ? mover.shelves[i] : NONE;
    }

    public int eye(int from, int till) {
        if (!isMinute(from) || !isMinute(till) || till < from) {
            return BAD;
        }
        if (watches.size() >= MOST_EYES) {
            return FULL;
        }
        watches.add(new Eye(from, till));
        return watches.size();
    }

    public int eyes(int minute) {
        return isMinute(minute) ? eyesAt(minute) : BAD;
    }

    public int gone(int b) {
        Book book = bookAt(b);
        if (book == null) {
            return BAD;
        }
        int present = lastPresent(book);
        int absent = firstAbsentBehind(book, present);
        if (present < 0 || absent < 0) {
            return NONE;
        }
        lastAsked = looks.get(present).minute;
        return looks.get(absent).minute - lastAsked;
    }

    public int hands(int b) {
        Book book = bookAt(b);
        if (book == null) {
            return BAD;
        }
        int present = lastPresent(book);
        int absent = firstAbsentBehind(book, present);
        if (present < 0 || absent < 0) {
            return NONE;
        }
        return readersOf(book, looks.get(present).minute, looks.get(absent).minute);
    }

    // ---- 7 what is told

    public int asked() {
        return lastAsked;
    }

    public long upper() {
        return lastUpper;
    }

    public long lower() {
        return lastLower;
    }

    public int count(int what) {
        switch (what) {
            case 0: return now;
            case 1: return books.size();
            case 2: return slips.size();
            case 3: return rules.size();
            case 4: return catalogue.lines.size();
            case 5: return looks.size();
            case 6: return hads.size();
            case 7: return watches.size();
            case 8: return countThere(rows);
            case 9: return countThere(texts);
            default: return BAD;
        }
    }

    public int finding() {
        return lastFinding;
    }

    public int findings(int f) {
        return f >= NOTHING && f <= SIZE ? timesFound[f] : BAD;
    }

    public long digest() {
        long h = 17;
        for (int what = 0; what <= 9; what++) {
            h = mix(h, count(what));
        }
        h = mixBooks(h);
        h = mixSlips(h);
        for (int f = 0; f < FETCHERS; f++) {
            h = mix(mix(h, paces[f]), freeFrom[f]);
        }
        for (int r = 0; r < rules.size(); r++) {
            h = mix(mix(h, rules.get(r).toldOn), rules.get(r).from);
        }
        h = mixLines(h);
        h = mixLooks(h);
        h = mixHads(h);
        for (int e = 0; e < watches.size(); e++) {
            h = mix(mix(h, watches.get(e).from), watches.get(e).till);
        }
        return mixRows(mixRows(h, rows), texts);
    }

    // ---- which numbers are numbers of something

    private static boolean isShelf(int shelf) {
        return shelf >= 0 && shelf < SHELVES;
    }

    private static boolean isReader(int reader) {
        return reader >= 0 && reader < READERS;
    }

    private static boolean isFetcher(int f) {
        return f >= 0 && f < FETCHERS;
    }

    private static boolean isMark(int mark) {
        return mark >= 0 && mark <= LAST_MARK;
    }

    private static boolean isMinute(int minute) {
        return minute >= 0 && minute <= LAST_MINUTE;
    }

    private static boolean isDay(int day) {
        return day >= 0 && day <= LAST_DAY;
    }

    private static boolean isLetter(int what) {
        return what >= Q && what <= E;
    }

    private boolean isKnowable(int age, int mark, int known) {
        return age >= 0 && age <= TODAYS_AGE && isMark(mark) && known >= 0 && known <= now;
    }

    private Row rowAt(int r) {
        return r >= 0 && r < ROWS ? rows[r] : null;
    }

    private Row textAt(int t) {
        return t >= 0 && t < TEXTS ? texts[t] : null;
    }

    private Book bookAt(int b) {
        return b >= 0 && b < books.size() ? books.get(b) : null;
    }

    private Slip slipAt(int s) {
        return s >= 0 && s < slips.size() ? slips.get(s) : null;
    }

    private static int dayOf(int minute) {
        return minute / MINUTES_OF_DAY;
    }

    private int found(int f) {
        lastFinding = f;
        timesFound[f]++;
        return FINDING;
    }

    // ---- books as the minutes go on

    private void letArrive(Book book) {
        if (book.kind == GOING && book.goingTill <= now) {
            letSit(book);
        } else if (book.kind == BINDER && book.detail <= now) {
            book.comeHome();
        } else if (book.kind == KEPT && (book.detail + 1) * MINUTES_OF_DAY <= now) {
            book.endHad((book.detail + 1) * MINUTES_OF_DAY);
            book.comeHome();
        }
    }

    private void letSit(Book book) {
        Slip slip = book.goingFor;
        if (slip == null) {
            return;
        }
        int since = book.goingTill;
        slip.end(DONE, since);
        book.goingFor = null;
        book.comeTo(SEAT, slip.reader);
        book.reader = slip.reader;
        if (hads.size() < MOST_HAD) {
            book.had = new Had(book.number, slip.reader, since);
            hads.add(book.had);
        }
    }

    private Book bookMarked(int mark) {
        for (int b = 0; b < books.size(); b++) {
            if (books.get(b).mark == mark) {
                return books.get(b);
            }
        }
        return null;
    }

    private int countHadBy(int reader) {
        int many = 0;
        for (int b = 0; b < books.size(); b++) {
            if (books.get(b).isHad() && books.get(b).reader == reader) {
                many++;
            }
        }
        return many;
    }

    // ---- reading texts

    private static boolean hasFigure(Row text, int i) {
        return text.hasPlace(i) && text.places[i] >= '0' && text.places[i] <= '9';
    }

    private static int numberAt(Row text, int i, int figures) {
        int number = 0;
        for (int k = i; k < i + figures && text.hasPlace(k); k++) {
            number = 10 * number + text.places[k] - '0';
        }
        return number;
    }

    /** A MARK of as many figures as stand there, four at most; NONE: no figure. */
    private static int readMark(Row text, int i) {
        int figures = 0;
        while (figures < FIGURES && hasFigure(text, i + figures)) {
            figures++;
        }
        return figures == 0 ? NONE : numberAt(text, i, figures);
    }

    /** Lays the last number of each letter; answers the FAULT, or NONE. */
    private static int readItems(Row text, int[] numbers) {
        int i = 0;
        while (i < text.size && i < PLACES) {
            int sign = text.places[i];
            int letter = letterOf(sign);
            if (letter == NONE && sign != BLANK) {
                return i;
            }
            i++;
            if (letter >= 0 && letter < numbers.length) {
                if (!hasFigure(text, i)) {
                    return i;
                }
                int figures = hasFigure(text, i + 1) ? 2 : 1;
                numbers[letter] = numberAt(text, i, figures);
                i += figures;
            }
        }
        return NONE;
    }

    private static int letterOf(int sign) {
        switch (sign) {
            case 'Q': return Q;
            case 'K': return K;
            case 'W': return W;
            case 'E': return E;
            default: return NONE;
        }
    }

    // ---- rules in force

    private int inForceNow(int what) {
        return inForce(what, dayOf(now), dayOf(now));
    }

    private int inForce(int what, int day, int known) {
        int r = ruleInForce(what, day, known);
        if (r >= 0 && r < rules.size()) {
            return rules.get(r).numbers[what];
        }
        switch (what) {
            case Q: return 9;
            case K: return 3;
            default: return 0;
        }
    }

    private int ruleInForce(int what, int day, int known) {
        int latest = -1;
        int answer = NONE;
        for (int r = 0; r < rules.size(); r++) {
            Rule rule = rules.get(r);
            if (rule.from <= day && rule.from >= latest && rule.tellsFrom(what, rule.from, known)) {
                latest = rule.from;
                answer = r;
            }
        }
        return answer;
    }

    private int unlikeBehind(int a, int what, int from, int known) {
        for (int r = a + 1; r < rules.size(); r++) {
            Rule rule = rules.get(r);
            if (rule.tellsFrom(what, from, known) && rule.numbers[what] != rules.get(a).numbers[what]) {
                return r;
            }
        }
        return NONE;
    }

    // ---- slips and rounds

    private int loadOf(int reader) {
        int load = countHadBy(reader);
        for (int s = 0; s < slips.size(); s++) {
            Slip slip = slips.get(s);
            if (slip.reader == reader && (slip.how == WAITS || slip.how == GOES)) {
                load++;
            }
        }
        return load;
    }

    private boolean isForbidden(Book book) {
        return book.rare && inForceNow(E) > 0 && eyesAt(now) == 0;
    }

    private static int minutesToBring(int floor, int pace) {
        return 2 * floor * pace + 4;
    }

    private int rankOf(Slip slip, int way) {
        switch (way) {
            case 1: return countHadBy(slip.reader);
            case 2: return slip.reader;
            default: return 0;
        }
    }

    private int waitingAheadOf(int s) {
        int ahead = 0;
        for (int i = 0; i < s; i++) {
            if (slips.get(i).how == WAITS) {
                ahead++;
            }
        }
        return ahead;
    }

    private void gatherRounds() {
        rounds.many = 0;
        for (int f = 0; f < FETCHERS; f++) {
            rounds.paces[f] = paces[f];
            rounds.starts[f] = Math.max(freeFrom[f] - now, 0);
        }
        for (int s = 0; s < slips.size(); s++) {
            if (slips.get(s).how == WAITS) {
                rounds.queue(slips.get(s).book.floor());
            }
        }
    }

    // ---- where a book may stand

    private int likelihood(Book book, int shelf) {
        if (shelf == book.shelf) {
            return 0;
        }
        int likelihood = shelf / 2 == book.floor() ? 1 : 0;
        likelihood += isOwnShelf(nextGreater(book), shelf) ? 4 : 0;
        likelihood += isOwnShelf(nextLesser(book), shelf) ? 4 : 0;
        int reader = lastReaderOf(book);
        for (int b = 0; b < books.size(); b++) {
            Book other = books.get(b);
            if (other.shelf == shelf) {
                likelihood += isSwapped(book.mark, other.mark) ? 3 : 0;
                likelihood += everHad(reader, other) ? 2 : 0;
            }
        }
        return likelihood;
    }

    private static boolean isOwnShelf(Book book, int shelf) {
        return book != null && book.shelf == shelf;
    }

    private Book nextGreater(Book book) {
        Book next = null;
        for (int b = 0; b < books.size(); b++) {
            Book other = books.get(b);
            if (other.mark > book.mark && (next == null || other.mark < next.mark)) {
                next = other;
            }
        }
        return next;
    }

    private Book nextLesser(Book book) {
        Book next = null;
        for (int b = 0; b < books.size(); b++) {
            Book other = books.get(b);
            if (other.mark < book.mark && (next == null || other.mark > next.mark)) {
                next = other;
            }
        }
        return next;
    }

    private static boolean isSwapped(int mark, int other) {
        for (int unit = 1; unit <= 100; unit *= 10) {
            int low = mark / unit % 10;
            int high = mark / (10 * unit) % 10;
            if (low != high && other == mark + 9 * unit * (low - high)) {
                return true;
            }
        }
        return false;
    }

    private int lastReaderOf(Book book) {
        int reader = NONE;
        for (int h = 0; h < hads.size(); h++) {
            if (hads.get(h).book == book.number) {
                reader = hads.get(h).reader;
            }
        }
        return reader;
    }

    private int readersOf(Book book, int begin, int end) {
        int readers = 0;
        for (int h = 0; h < hads.size(); h++) {
            Had had = hads.get(h);
            if (had.book == book.number && had.touches(begin, end)) {
                readers |= 1 << had.reader;
            }
        }
        return readers;
    }

    private boolean everHad(int reader, Book book) {
        for (int h = 0; h < hads.size(); h++) {
            if (hads.get(h).reader == reader && hads.get(h).book == book.number) {
                return true;
            }
        }
        return false;
    }

    private static int bestShelves(int[] worths, int[] minutes, int m) {
        int best = 0;
        int bestWorth = 0;
        int bestMinutes = 0;
        int unlikely = unlikelyShelves(worths);
        for (int bits = 1; bits < 1 << SHELVES; bits++) {
            if ((bits & unlikely) != 0) {
                continue;
            }
            int spent = sumOfBits(minutes, bits);
            int worth = sumOfBits(worths, bits);
            if (spent <= m && (worth > bestWorth || worth == bestWorth && spent < bestMinutes)) {
                best = bits;
                bestWorth = worth;
                bestMinutes = spent;
            }
        }
        return best;
    }

    /** No best set has one of these, because each SHELF takes a minute at least. */
    private static int unlikelyShelves(int[] worths) {
        int bits = 0;
        for (int i = 0; i < SHELVES && i < worths.length; i++) {
            bits |= worths[i] == 0 ? 1 << i : 0;
        }
        return bits;
    }

    private static int sumOfBits(int[] numbers, int bits) {
        int sum = 0;
        for (int i = 0; i < SHELVES && i < numbers.length; i++) {
            sum += (bits >> i & 1) * numbers[i];
        }
        return sum;
    }

    // ---- looks and eyes

    private void tellLook(Book book, int present) {
        if (looks.size() < MOST_LOOKS) {
            looks.add(new Look(book.number, now, present));
        }
    }

    private boolean isLook(int l, Book book, int present) {
        return looks.get(l).book == book.number && looks.get(l).present == present;
    }

    private int lastPresent(Book book) {
        for (int l = looks.size() - 1; l >= 0; l--) {
            if (isLook(l, book, 1)) {
                return l;
            }
        }
        return NONE;
    }

    private int firstAbsentBehind(Book book, int present) {
        for (int l = present + 1; present >= 0 && l < looks.size(); l++) {
            if (isLook(l, book, 0)) {
                return l;
            }
        }
        return NONE;
    }

    private int eyesAt(int minute) {
        int many = 0;
        for (int e = 0; e < watches.size(); e++) {
            if (watches.get(e).from <= minute && minute <= watches.get(e).till) {
                many++;
            }
        }
        return many;
    }

    private void tellFraction(long upper, long lower) {
        long shared = greatestShared(upper, lower);
        if (shared > 0) {
            lastUpper = upper / shared;
            lastLower = lower / shared;
        }
    }

    private static long greatestShared(long a, long b) {
        for (int step = 0; step < MOST_STEPS && b > 0; step++) {
            long rest = a % b;
            a = b;
            b = rest;
        }
        return a;
    }

    // ---- what is counted and mixed

    private static int countThere(Row[] all) {
        int many = 0;
        for (int r = 0; r < all.length; r++) {
            many += all[r].isMissing() ? 0 : 1;
        }
        return many;
    }

    private static long mix(long h, int v) {
        return 31 * h + v;
    }

    private long mixBooks(long h) {
        for (int b = 0; b < books.size(); b++) {
            Book book = books.get(b);
            for (int what = 0; what <= 4; what++) {
                h = mix(h, book.tells(what));
            }
            h = mix(h, book.detail);
        }
        return h;
    }

    private long mixSlips(long h) {
        for (int s = 0; s < slips.size(); s++) {
            for (int what = 0; what <= 4; what++) {
                h = mix(h, slips.get(s).tells(what));
            }
        }
        return h;
    }

    private long mixLines(long h) {
        for (int l = 0; l < catalogue.lines.size(); l++) {
            Line line = catalogue.lines.get(l);
            h = mix(mix(mix(h, line.age), line.from), line.till);
            h = mix(mix(h, line.shift), line.over);
        }
        return h;
    }

    private long mixLooks(long h) {
        for (int l = 0; l < looks.size(); l++) {
            Look look = looks.get(l);
            h = mix(mix(mix(h, look.book), look.minute), look.present);
        }
        return h;
    }

    private long mixHads(long h) {
        for (int i = 0; i < hads.size(); i++) {
            Had had = hads.get(i);
            h = mix(mix(h, had.book), had.reader);
            h = mix(mix(h, had.from), had.till);
        }
        return h;
    }

    private static long mixRows(long h, Row[] all) {
        for (int r = 0; r < all.length; r++) {
            Row row = all[r];
            h = mix(h, row.size);
            for (int i = 0; i < row.size && i < PLACES; i++) {
                h = mix(h, row.places[i]);
            }
        }
        return h;
    }

    /** A ROW of ints, or a TEXT of bytes; a size below 0 says that it is missing. */
    private static final class Row {
        int size = -1;
        final int[] places = new int[PLACES];

        boolean isMissing() {
            return size < 0;
        }

        void begin(int n, int filler) {
            size = n;
            for (int i = 0; i < PLACES; i++) {
                places[i] = filler;
            }
        }

        boolean hasPlace(int i) {
            return i >= 0 && i < size && i < PLACES;
        }

        boolean hasPlaces(int i, int n) {
            return i >= 0 && n >= 0 && i <= size - n;
        }

        boolean isWithin(int least, int most) {
            for (int i = 0; i < size && i < PLACES; i++) {
                if (places[i] < least || places[i] > most) {
                    return false;
                }
            }
            return true;
        }

        long sum() {
            long sum = 0;
            for (int i = 0; i < size && i < PLACES; i++) {
                sum += places[i];
            }
            return sum;
        }
    }

    /** A BOOK: where it is, and where it is BELIEVED to be. */
    private static final class Book {
        final int number;
        final int mark;
        final int shelf;
        final boolean rare;
        int kind = ON_SHELF;
        int believed = BELIEVED_THERE;
        /** What the PLACE tells by its own KIND: READER, DAY, minute, SHELF, FETCHER, or since when. */
        int detail = 0;
        /** Told beside the detail, because a KEPT one tells its DAY there. */
        int reader = 0;
        int goingTill = 0;
        Slip goingFor = null;
        Had had = null;

        Book(int number, int mark, int shelf, boolean rare) {
            this.number = number;
            this.mark = mark;
            this.shelf = shelf;
            this.rare = rare;
        }

        int floor() {
            return shelf / 2;
        }

        boolean isHad() {
            return kind == SEAT || kind == KEPT;
        }

        void comeTo(int newKind, int newDetail) {
            kind = newKind;
            detail = newDetail;
            believed = believedAt(newKind);
        }

        void comeHome() {
            comeTo(ON_SHELF, 0);
        }

        /** Nobody knows of a BOOK that is LOST, or that it was put on a WRONG SHELF. */
        private int believedAt(int newKind) {
            switch (newKind) {
                case SEAT: case KEPT: case GOING: return BELIEVED_READ;
                case BINDER: return BELIEVED_BOUND;
                case LOST: return believed;
                default: return BELIEVED_THERE;
            }
        }

        void endHad(int minute) {
            if (had != null) {
                had.till = minute;
                had = null;
            }
        }

        int tells(int what) {
            switch (what) {
                case 0: return kind;
                case 1: return mark;
                case 2: return shelf;
                case 3: return rare ? 1 : 0;
                default: return believed;
            }
        }
    }

    /** A SLIP; its load is what its READER had of SLIPS and BOOKS as it was told, for rules tried afterwards. */
    private static final class Slip {
        final int reader;
        final Book book;
        final int toldAt;
        final int load;
        int how = WAITS;
        int endedAt = NONE;

        Slip(int reader, Book book, int toldAt, int load) {
            this.reader = reader;
            this.book = book;
            this.toldAt = toldAt;
            this.load = load;
        }

        void end(int newHow, int minute) {
            how = newHow;
            endedAt = minute;
        }

        int tells(int what) {
            switch (what) {
                case 0: return how;
                case 1: return reader;
                case 2: return book.number;
                case 3: return toldAt;
                default: return endedAt;
            }
        }
    }

    /** RULES of one TEXT: the last number of each letter, -1 where there is none. */
    private static final class Rule {
        final int toldOn;
        final int from;
        final int[] numbers = {-1, -1, -1, -1};

        Rule(int toldOn, int from) {
            this.toldOn = toldOn;
            this.from = from;
        }

        boolean tellsFrom(int what, int day, int known) {
            return from == day && toldOn <= known && numbers[what] >= 0;
        }
    }

    /** A HAD: which READER had which BOOK, from when till when. */
    private static final class Had {
        final int book;
        final int reader;
        final int from;
        int till = NONE;

        Had(int book, int reader, int from) {
            this.book = book;
            this.reader = reader;
            this.from = from;
        }

        boolean touches(int begin, int end) {
            return from <= end && (till == NONE || till >= begin);
        }
    }

    /** A LOOK: a BOOK was present (1) or absent (0). */
    private static final class Look {
        final int book;
        final int minute;
        final int present;

        Look(int book, int minute, int present) {
            this.book = book;
            this.minute = minute;
            this.present = present;
        }
    }

    /** An EYE over the rare ones, its last minute too. */
    private static final class Eye {
        final int from;
        final int till;

        Eye(int from, int till) {
            this.from = from;
            this.till = till;
        }
    }

    /** A LINE of the catalogue. */
    private static final class Line {
        final int age;
        final int from;
        final int till;
        final int shift;
        final int over;
        final int toldAt;
        int pastedAt = NONE;

        Line(int age, int from, int till, int shift, int over, int toldAt) {
            this.age = age;
            this.from = from;
            this.till = till;
            this.shift = shift;
            this.over = over;
            this.toldAt = toldAt;
        }

        boolean turns(int ofAge, int mark, int known) {
            boolean counts = toldAt <= known && (pastedAt == NONE || pastedAt > known);
            return counts && age == ofAge && mark >= from && mark <= till && isMark(mark + shift);
        }
    }

    /** The LINES, and the MARKS that a MARK may be through them, in order. */
    private static final class Catalogue {
        /** Twenty LINES over three AGES lead to 7 * 7 * 6 MARKS at most. */
        static final int MOST_MARKS = 300;

        final ArrayList<Line> lines = new ArrayList<>();
        int many = 0;
        int[] marks = new int[MOST_MARKS];
        private int[] earlier = new int[MOST_MARKS];

        boolean hasLine(int l) {
            return l >= 0 && l < lines.size();
        }

        boolean isPastedOver(int l) {
            return hasLine(l) && lines.get(l).pastedAt != NONE;
        }

        int paste(Line line) {
            if (hasLine(line.over)) {
                lines.get(line.over).pastedAt = line.toldAt;
            }
            lines.add(line);
            return lines.size() - 1;
        }

        void follow(int age, int mark, int known) {
            marks[0] = mark;
            many = 1;
            for (int a = age; a < TODAYS_AGE; a++) {
                turnAll(a, known);
            }
        }

        private void turnAll(int age, int known) {
            int[] given = marks;
            int before = many;
            marks = earlier;
            earlier = given;
            many = 0;
            for (int l = 0; l < lines.size(); l++) {
                Line line = lines.get(l);
                for (int i = 0; i < before && i < MOST_MARKS; i++) {
                    if (line.turns(age, given[i], known)) {
                        include(given[i] + line.shift);
                    }
                }
            }
        }

        private void include(int mark) {
            int at = many;
            while (at > 0 && marks[at - 1] > mark) {
                at--;
            }
            boolean known = at > 0 && marks[at - 1] == mark;
            if (known || many >= MOST_MARKS) {
                return;
            }
            System.arraycopy(marks, at, marks, at + 1, many - at);
            marks[at] = mark;
            many++;
        }
    }

    /** The SLIPS that WAIT, by number, as work for the FETCHERS; minutes count from NOW. */
    private static final class Rounds {
        final int[] paces = new int[FETCHERS];
        final int[] starts = new int[FETCHERS];
        final int[] best = new int[MOST_SLIPS];
        int many = 0;
        int least = 0;
        private final int[] floors = new int[MOST_SLIPS];
        /** The shortest first: for every PACE that is the order of the FLOORS. */
        private final int[] order = new int[MOST_SLIPS];
        private final int[] ends = new int[FETCHERS];
        private final int[] given = new int[MOST_SLIPS];

        void queue(int floor) {
            if (many >= MOST_SLIPS) {
                return;
            }
            int at = many;
            while (at > 0 && floors[order[at - 1]] > floor) {
                order[at] = order[at - 1];
                at--;
            }
            order[at] = many;
            floors[many] = floor;
            many++;
        }

        private void begin() {
            for (int f = 0; f < FETCHERS; f++) {
                ends[f] = starts[f];
            }
        }

        private int endOf(int f, int i) {
            return ends[f] + minutesToBring(floors[i], paces[f]);
        }

        int foretold(int wanted) {
            begin();
            int end = 0;
            for (int i = 0; i <= wanted && i < many; i++) {
                int quickest = 0;
                for (int f = 1; f < FETCHERS; f++) {
                    if (endOf(f, i) < endOf(quickest, i)) {
                        quickest = f;
                    }
                }
                end = endOf(quickest, i);
                ends[quickest] = end;
            }
            return end;
        }

        int sumOf(int[] fetchers) {
            begin();
            int sum = 0;
            for (int k = 0; k < many; k++) {
                int i = order[k];
                int f = i < fetchers.length ? fetchers[i] : NONE;
                if (isFetcher(f)) {
                    ends[f] = endOf(f, i);
                    sum += ends[f];
                }
            }
            return sum;
        }

        void workOut() {
            begin();
            least = NO_WAY;
            give(0, 0);
        }

        private void give(int k, int sum) {
            if (sum > least) {
                return;
            }
            if (k >= many || k >= MOST_IN_ROUND) {
                settle(sum);
                return;
            }
            int i = order[k];
            for (int f = 0; f < FETCHERS; f++) {
                int end = ends[f];
                given[i] = f;
                ends[f] = endOf(f, i);
                give(k + 1, sum + ends[f]);
                ends[f] = end;
            }
        }

        private void settle(int sum) {
            if (sum < least || isAheadOfBest()) {
                least = sum;
                System.arraycopy(given, 0, best, 0, many);
            }
        }

        private boolean isAheadOfBest() {
            for (int i = 0; i < many; i++) {
                if (given[i] != best[i]) {
                    return given[i] < best[i];
                }
            }
            return false;
        }
    }

    /** Classes MOVED to SHELVES; it keeps the SHELVES of the latest move that found room. */
    private static final class Mover {
        int classes = 0;
        final int[] shelves = new int[MOST_CLASSES];
        /** By SHELF and class: the fewest books carried if the classes from that one on stand from that SHELF on. */
        private final int[][] fewest = new int[SHELVES + 1][MOST_CLASSES + 1];
        /** By the same: the first class that stands behind that SHELF then. */
        private final int[][] ends = new int[SHELVES][MOST_CLASSES + 1];

        int carry(Row sizes, Row places, Row room) {
            for (int i = 0; i <= sizes.size && i <= MOST_CLASSES; i++) {
                fewest[SHELVES][i] = i == sizes.size ? 0 : NO_WAY;
            }
            for (int shelf = SHELVES - 1; shelf >= 0; shelf--) {
                for (int i = 0; i <= sizes.size && i <= MOST_CLASSES; i++) {
                    fill(shelf, i, room.places[shelf], sizes, places);
                }
            }
            if (fewest[0][0] >= NO_WAY) {
                return NONE;
            }
            settle(sizes.size);
            return fewest[0][0];
        }

        /** Of alike ends the last one is taken: so more classes stand ahead, which is the first by SHELVES. */
        private void fill(int shelf, int begin, int room, Row sizes, Row places) {
            int standing = 0;
            int carried = 0;
            fewest[shelf][begin] = NO_WAY;
            for (int end = begin; end <= sizes.size && end <= MOST_CLASSES && standing <= room; end++) {
                int all = carried + fewest[shelf + 1][end];
                if (all <= fewest[shelf][begin]) {
                    fewest[shelf][begin] = all;
                    ends[shelf][begin] = end;
                }
                standing += sizes.places[end];
                carried += places.places[end] == shelf ? 0 : sizes.places[end];
            }
        }

        private void settle(int many) {
            classes = many;
            int begin = 0;
            for (int shelf = 0; shelf < SHELVES; shelf++) {
                int end = ends[shelf][begin];
                for (int i = begin; i < end && i < MOST_CLASSES; i++) {
                    shelves[i] = shelf;
                }
                begin = end;
            }
        }
    }
}
