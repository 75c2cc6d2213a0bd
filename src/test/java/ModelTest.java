/** All promises: long runs of calls, ReadersRoom held against the plain Model of the document. */
public final class ModelTest {
    private static final int RUNS = 1200;
    private static final int MOST_CALLS = 512;
    /** No step takes more calls than these, the digests between them too. */
    private static final int CALLS_OF_STEP = 96;
    private static final int[] EDGES = {-1, -9, -10, 0, 1, 2, 3, 8, 24, 40, 41, 70, 9999, 10000, 99999, 100000,
        Integer.MAX_VALUE, Integer.MIN_VALUE};

    private final Pair pair = new Pair();
    /** The same numbers in every run of the tests. */
    private long seed;
    private int books = 0;
    private int slips = 0;
    private int lines = 0;
    private final int[] marks = new int[24];
    /** How far a run's minutes go at once. */
    private final int stride;

    private ModelTest(long seed) {
        this.seed = seed * 7919 + 13;
        int[] strides = {3, 12, 60, 700, 3000};
        stride = strides[any(strides.length)];
    }

    public static void main(String[] args) {
        for (int run = 0; run < RUNS; run++) {
            ModelTest test = new ModelTest(run);
            int first = test.any(25);
            for (int b = 0; b < first; b++) {
                test.makeBook();
            }
            while (test.pair.calls() < MOST_CALLS - CALLS_OF_STEP) {
                test.step();
            }
            test.pair.compareDigests();
            Due.is("more than 512 calls in run " + run, test.pair.calls() > MOST_CALLS ? 1 : 0, 0);
        }
        Due.end("ModelTest");
    }

    private int any(int bound) {
        seed = seed * 6364136223846793005L + 1442695040888963407L;
        return (int) ((seed >>> 33) % bound);
    }

    private boolean seldom() {
        return any(25) == 0;
    }

    /** A number below the bound, seldom one that is none. */
    private int num(int bound) {
        return bound <= 0 || seldom() ? EDGES[any(EDGES.length)] : any(bound);
    }

    private int aBook() {
        return num(books);
    }

    private int aSlip() {
        return num(slips);
    }

    private void makeBook() {
        int mark = any(3) == 0 && books > 0 ? swap(marks[any(books)]) : any(2) == 0 ? any(30) : any(10000);
        mark = seldom() ? EDGES[any(EDGES.length)] : mark;
        long b = pair.call("book", mark, num(8), any(3) == 0);
        if (b >= 0 && b < 24) {
            marks[(int) b] = mark;
            books = (int) b + 1;
        }
    }

    private int swap(int mark) {
        int unit = new int[] {1, 10, 100}[any(3)];
        int low = mark / unit % 10;
        int high = mark / unit / 10 % 10;
        return mark + 9 * unit * (low - high);
    }

    private void write(int t, String signs) {
        pair.call("text", t, signs.length());
        for (int i = 0; i < signs.length(); i++) {
            pair.call("put", t, i, (int) signs.charAt(i));
        }
    }

    private void layRow(int r, int size, int bound, int from) {
        pair.call("row", r, size);
        for (int i = 0; i < size && i < 40; i++) {
            pair.call("lay", r, i, seldom() && any(3) == 0 ? EDGES[any(EDGES.length)] : from + any(bound));
        }
    }

    private void askForOne() {
        int t = any(4);
        String figures = books == 0 ? "12" : Integer.toString(marks[any(books)]);
        String[] ways = {figures, " " + figures + "x", "00" + figures, figures + " 1"};
        String signs = ways[any(ways.length)];
        write(t, signs.length() > 40 ? "" : signs);
        long s = pair.call("slip", num(any(4) == 0 ? 8 : 3), t, any(3) == 0 ? num(6) : signs.charAt(0) == ' ' ? 1 : 0);
        slips = s >= 0 ? (int) s + 1 : slips;
    }

    private void tellRules() {
        int t = any(4);
        StringBuilder signs = new StringBuilder();
        int items = any(4);
        for (int k = 0; k < items; k++) {
            signs.append(" ".repeat(any(2))).append("QKWE".charAt(any(4))).append(any(3) == 0 ? any(100) : any(4));
        }
        if (any(5) == 0) {
            signs.insert(any(signs.length() + 1), "Q7 x/:".charAt(any(6)));
        }
        write(t, signs.toString());
        pair.call("fault", t);
        pair.call("rule", t, any(2) == 0 ? num(70) : any(3));
    }

    private void tellLine() {
        int from = num(any(3) == 0 ? 10000 : 20);
        int till = any(4) == 0 ? num(10000) : from + any(50);
        int shift = any(4) == 0 ? num(10000) : any(11) - 5;
        long l = pair.call("line", num(3), from, till, shift, any(6) == 0 ? num(lines) : ReadersRoom.NONE);
        lines = l >= 0 ? (int) l + 1 : lines;
    }

    private void askCatalogue() {
        int age = num(4);
        int mark = any(4) == 0 ? num(10000) : num(40);
        int now = (int) pair.call("count", 0);
        int known = any(3) == 0 ? num(now + 1) : now;
        if (any(2) == 0) {
            pair.call("today", age, mark, known);
        }
        pair.call("turned", age, mark, known, num(6));
    }

    private void moveClasses() {
        int classes = 1 + any(any(6) == 0 ? 13 : 7);
        layRow(0, classes, any(2) == 0 ? 4 : 100, 0);
        layRow(1, any(12) == 0 ? classes + 1 : classes, 8, 0);
        layRow(2, any(20) == 0 ? 7 : 8, any(3) == 0 ? 1000 : 120, 0);
        pair.call("move", 0, 1, any(20) == 0 ? num(6) : 2);
        pair.call("moved", num(classes + 1));
    }

    private void searchOne() {
        layRow(3, any(20) == 0 ? any(12) : 8, any(3) == 0 ? 60 : 6, 1);
        for (int k = 0; k < 3; k++) {
            pair.call("search", aBook(), 3, any(4) == 0 ? num(481) : any(40));
        }
    }

    private void judgeOne() {
        int many = 0;
        for (int s = 0; s < slips; s++) {
            pair.call("slipTold", s, 0);
            many += pair.call("asked") == 0 ? 1 : 0;
        }
        layRow(4, any(6) == 0 ? any(9) : many, 3, 0);
        pair.call("judge", any(10) == 0 ? num(6) : 4);
    }

    /** A BOOK is asked for, read, put somewhere, looked for, perhaps lost; then who had it is asked. */
    private void lifeOfOne() {
        int before = slips;
        askForOne();
        if (slips == before || pair.call("slipTold", before, 2) != 1) {
            return;
        }
        int b = (int) pair.call("asked");
        pair.call("told", b, 2);
        int own = (int) pair.call("asked");
        int aside = any(2) == 0 ? own : any(8);
        if (any(2) == 0) {
            pair.call("along", own);
        }
        int f = any(3);
        pair.call("send", f, before);
        pair.call("later", (int) pair.call("takes", f, before) + any(3) - any(2));
        if (any(3) == 0) {
            pair.call("keep", b);
        }
        if (any(5) == 0) {
            pair.call("lose", b);
        } else {
            pair.call("back", b, aside);
        }
        pair.call("along", own);
        pair.call("gone", b);
        pair.call("hands", b);
        pair.call("likely", b, any(8));
        pair.call("along", aside);
        pair.call("later", any(3));
        pair.call("wrong");
        pair.call("look", b, any(3), any(2));
    }

    private void sendSome() {
        int f = num(3);
        pair.call("send", f, aSlip());
        if (any(2) == 0) {
            pair.call("later", any(stride));
        }
    }

    private void step() {
        switch (any(26)) {
            case 0: makeBook(); break;
            case 1: case 2: askForOne(); break;
            case 3: tellRules(); break;
            case 4: tellLine(); break;
            case 5: askCatalogue(); break;
            case 6: if (any(3) == 0) moveClasses(); break;
            case 7: if (any(3) == 0) searchOne(); break;
            case 8: if (any(3) == 0) judgeOne(); break;
            case 9: case 10: case 11: sendSome(); break;
            case 12: pair.call("later", seldom() ? EDGES[any(EDGES.length)] : any(stride)); break;
            case 13: case 14: case 15: case 16: changeOneBook(); break;
            case 17: askRows(); break;
            case 18: lifeOfOne(); break;
            default: askOne();
        }
    }

    private void changeOneBook() {
        switch (any(8)) {
            case 0: pair.call("keep", aBook()); break;
            case 1: case 2: pair.call("back", aBook(), num(8)); break;
            case 3: if (any(3) == 0) pair.call("bind", aBook(), (int) pair.call("count", 0) + any(stride)); break;
            case 4: if (any(4) == 0) pair.call("lose", aBook()); break;
            case 5: pair.call("find", aBook()); break;
            case 6: pair.call("along", num(8)); break;
            default: pair.call("pace", num(3), num(10));
        }
    }

    private void askRows() {
        switch (any(7)) {
            case 0: pair.call("row", num(6), num(42)); break;
            case 1: pair.call("lay", num(6), num(41), num(10000)); break;
            case 2: if (any(4) == 0) pair.call("tear", num(6)); break;
            case 3: pair.call("copy", num(6), num(12), num(6), num(12), num(12)); break;
            case 4: pair.call("mean", num(6)); break;
            case 5: pair.call("text", num(4), num(42)); break;
            default: pair.call("put", num(4), num(41), num(300));
        }
    }

    private void askWhatIsTold() {
        switch (any(6)) {
            case 0: pair.call("count", num(10)); break;
            case 1: pair.call("findings", num(6)); break;
            case 2: pair.call("finding"); break;
            case 3: pair.call("moved", num(13)); break;
            case 4: pair.call("asked"); break;
            default: pair.call(any(2) == 0 ? "upper" : "lower");
        }
    }

    private void askOne() {
        switch (any(30)) {
            case 0: pair.call("told", aBook(), num(5)); break;
            case 1: pair.call("mark", aBook(), num(7)); break;
            case 2: pair.call("has", num(8)); break;
            case 3: pair.call("force", num(4), num(70), num(70)); break;
            case 4: pair.call("why", num(4), num(70), num(70)); break;
            case 5: pair.call("quarrel", num(4), any(2) == 0 ? num(70) : num(3), num(70)); break;
            case 6: pair.call("slipTold", aSlip(), num(5)); break;
            case 7: pair.call("free", num(3)); break;
            case 8: pair.call("takes", num(3), aSlip()); break;
            case 9: pair.call("foretell", aSlip()); break;
            case 10: pair.call("round"); break;
            case 11: pair.call("roundOf", aSlip()); break;
            case 12: pair.call("first", aBook()); break;
            case 13: pair.call("beside", num(any(2) == 0 ? 4 : 100)); break;
            case 14: pair.call("crowd", num(any(2) == 0 ? 3 : 70)); break;
            case 15: pair.call("likely", aBook(), num(8)); break;
            case 16: pair.call("wrong"); break;
            case 17: pair.call("look", aBook(), num(5), num(2)); break;
            case 18: pair.call("eye", any(2) * any(stride), num(100000)); break;
            case 19: pair.call("eyes", num(100000)); break;
            case 20: case 21: pair.call("gone", aBook()); break;
            case 22: case 23: pair.call("hands", aBook()); break;
            default: askWhatIsTold();
        }
    }
}
