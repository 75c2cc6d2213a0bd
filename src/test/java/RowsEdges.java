/** The boundary cases of promises 1 to 8: a new object, ROWS and TEXTS. */
final class RowsEdges {
    private RowsEdges() {
    }

    static void all() {
        newObject();
        row();
        lay();
        tear();
        copyBounds();
        copyOrder();
        copyAsIfTakenAhead();
        mean();
        text();
        put();
    }

    private static void newObject() {
        Edge x = Edge.of("1 a new object: no ROWS, TEXTS, BOOKS, RULES; NOW 0");
        for (int what = 0; what <= 9; what++) {
            x.is("count(" + what + ")", 0);
        }
        for (int r = 0; r <= 5; r++) {
            x.nothing("tear(" + r + ")");
        }
        for (int t = 0; t <= 3; t++) {
            x.nothing("fault(" + t + ")");
        }
        x.bad("told(0, 0)", "slipTold(0, 0)", "line(0, 0, 0, 0, 0)", "today(0, 0, 1)");
        x.none("why(0, 69, 69)", "moved(0)").is("force(0, 0, 0)", 9).is("force(1, 0, 0)", 3);
        x.is("force(2, 0, 0)", 0).is("force(3, 0, 0)", 0).is("round()", 0).is("eyes(0)", 0);
        for (int f = 0; f <= 2; f++) {
            x.is("free(" + f + ")", 0).is("pace(" + f + ", 1)", 1);
        }
        Edge.of("1 a new object has nothing of another one")
            .run("row(0, 1)", "text(0, 1)", "book(5, 5, true)", "later(9)");
        Edge.of("1 a new object has nothing of another one").nothing("tear(0)", "fault(0)").bad("told(0, 0)")
            .is("later(0)", 0);
    }

    private static void row() {
        Edge.of("2 row: ROWS 0 .. 5").within("row(#, 3)", 0, 5);
        Edge.of("2 row: BAD: also n above 40; SIZE: below 0").within("row(0, #)", 0, 40, Refusal.SIZE, Refusal.BAD);
        Edge.of("2 row: BAD ahead of SIZE").bad("row(6, -1)", "row(-1, -1)", "row(MAX, MIN)", "row(MIN, MAX)");
        Edge.of("2 row: n").is("row(0, 0)", 0).is("row(1, 1)", 1).is("row(4, 39)", 39).is("row(5, 40)", 40)
            .is("count(8)", 4);
        Edge.of("2 row: of 0 ints").run("row(0, 0)").beyond("lay(0, 0, 1)").is("count(8)", 1);
        Edge.of("2 row: of 40 ints").run("row(0, 40)").is("lay(0, 39, 1)", 1).beyond("lay(0, 40, 1)");
        Edge x = Edge.of("2 row: ints 0, also one that was there").lay(0, 7, 8, 9);
        x.is("row(0, 3)", 3).tells("lay(0, 0, 1)", 0).tells("lay(0, 1, 1)", 0).tells("lay(0, 2, 1)", 0);
        x.is("row(0, 1)", 1).beyond("lay(0, 1, 1)").is("row(0, 3)", 3).tells("lay(0, 2, 1)", 0).is("count(8)", 1);
        Edge.of("2 row: what is refused leaves the ROW").lay(0, 7, 8).bad("row(0, 41)").size("row(0, -1)")
            .tells("lay(0, 1, 8)", 8).beyond("lay(0, 2, 1)");
    }

    private static void lay() {
        Edge.of("3 lay: BAD").run("row(0, 1)", "row(5, 1)").within("lay(#, 0, 1)", 0, 5);
        Edge.of("3 lay: NOTHING").nothing("lay(0, 0, 1)", "lay(5, 0, 1)");
        Edge.of("3 lay: BEYOND").run("row(2, 7)").within("lay(2, #, 1)", 0, 6, Refusal.BEYOND, Refusal.BEYOND);
        Edge.of("3 lay: BEYOND in an empty ROW").run("row(2, 0)")
            .beyond("lay(2, 0, 1)", "lay(2, -1, 1)", "lay(2, MAX, 1)");
        Edge.of("3 lay: BEYOND in a full ROW").run("row(2, 40)")
            .within("lay(2, #, 1)", 0, 39, Refusal.BEYOND, Refusal.BEYOND);
        Edge.of("3 lay: BAD ahead of NOTHING and BEYOND").bad("lay(6, 0, 1)", "lay(-1, 99, 1)");
        Edge.of("3 lay: NOTHING ahead of BEYOND").nothing("lay(0, -1, 1)", "lay(0, 40, 1)", "lay(0, MAX, 1)");
        Edge.of("3 lay: v at the ends of int").run("row(0, 2)").tells("lay(0, 1, MAX)", 0)
            .tells("lay(0, 1, MIN)", Integer.MAX_VALUE).tells("lay(0, 1, -1)", Integer.MIN_VALUE)
            .tells("lay(0, 1, 0)", -1).tells("lay(0, 0, 5)", 0);
    }

    private static void tear() {
        Edge.of("4 tear: BAD").run("row(0, 1)", "row(5, 1)").within("tear(#)", 0, 5);
        Edge.of("4 tear: NOTHING").nothing("tear(0)", "tear(5)").run("row(5, 0)").nothing("tear(0)").is("tear(5)", 1)
            .nothing("tear(5)");
        Edge.of("4 tear: a ROW is missing").lay(0, 3, 4).lay(1, 5).is("count(8)", 2).is("tear(0)", 1).is("count(8)", 1)
            .nothing("lay(0, 0, 1)", "mean(0)", "copy(0, 0, 1, 0, 0)").tells("lay(1, 0, 5)", 5).is("row(0, 2)", 2)
            .tells("lay(0, 0, 1)", 0).tells("lay(0, 1, 1)", 0);
        Edge.of("4 tear: an empty ROW, a full one").run("row(0, 0)", "row(1, 40)").is("tear(0)", 1).is("tear(1)", 1)
            .is("count(8)", 0);
    }

    private static void copyBounds() {
        Edge.of("5 copy: BAD: the one").run("row(0, 5)", "row(1, 5)", "row(5, 5)").within("copy(#, 0, 1, 0, 1)", 0, 5);
        Edge.of("5 copy: BAD: the other").run("row(0, 5)", "row(1, 5)", "row(5, 5)")
            .within("copy(1, 0, #, 0, 1)", 0, 5);
        Edge.of("5 copy: SIZE: n below 0").run("row(0, 5)", "row(1, 3)")
            .within("copy(0, 0, 1, 0, #)", 0, 3, Refusal.SIZE, Refusal.BEYOND);
        Edge.of("5 copy: NOTHING: either").run("row(0, 5)")
            .nothing("copy(0, 0, 1, 0, 1)", "copy(1, 0, 0, 0, 1)", "copy(2, 0, 3, 0, 1)", "copy(4, 0, 4, 0, 0)");
        Edge.of("5 copy: BEYOND: not so many there").run("row(0, 5)", "row(1, 3)")
            .within("copy(0, #, 1, 0, 2)", 0, 3, Refusal.BEYOND, Refusal.BEYOND);
        Edge.of("5 copy: BEYOND: not so many in the other").run("row(0, 5)", "row(1, 3)")
            .within("copy(0, 0, 1, #, 2)", 0, 1, Refusal.BEYOND, Refusal.BEYOND);
        Edge.of("5 copy: a sum that would wrap around").run("row(0, 5)", "row(1, 3)").beyond("copy(0, 1, 1, 0, MAX)",
            "copy(0, MAX, 1, 0, MAX)", "copy(0, 0, 1, MAX, MAX)", "copy(0, MAX, 1, MAX, MAX)")
            .beyond("copy(0, MIN, 1, 0, MAX)", "copy(0, 0, 1, MIN, MAX)", "copy(0, 2, 1, 2, 2147483646)")
            .beyond("copy(0, MAX, 1, 0, 1)", "copy(0, 0, 1, MAX, 1)", "copy(0, MIN, 1, MIN, 0)");
        Edge.of("5 copy: none").run("row(0, 5)", "row(1, 0)").is("copy(0, 0, 1, 0, 0)", 1).is("copy(1, 0, 0, 5, 0)", 1)
            .is("copy(1, 0, 1, 0, 0)", 1).beyond("copy(1, 1, 0, 0, 0)", "copy(1, 0, 0, 6, 0)", "copy(1, -1, 0, 0, 0)")
            .beyond("copy(1, 0, 0, 0, 1)", "copy(0, 0, 1, 0, 1)");
    }

    private static void copyOrder() {
        Edge.of("5 copy: BAD ahead of all")
            .bad("copy(6, 0, 0, 0, -1)", "copy(0, 0, 6, 0, -1)", "copy(-1, -1, 0, -1, 1)");
        Edge.of("5 copy: SIZE ahead of NOTHING").size("copy(0, 0, 1, 0, -1)", "copy(0, 99, 1, 99, MIN)");
        Edge.of("5 copy: SIZE ahead of BEYOND").run("row(0, 5)").size("copy(0, 6, 0, 6, -1)", "copy(0, -1, 0, 0, -1)");
        Edge.of("5 copy: NOTHING ahead of BEYOND").run("row(0, 5)")
            .nothing("copy(0, 6, 1, 0, 1)", "copy(1, 0, 0, -1, 1)");
    }

    private static void copyAsIfTakenAhead() {
        Edge x = Edge.of("5 copy: itself, as if taken ahead").lay(0, 1, 2, 3, 4);
        x.is("copy(0, 0, 0, 1, 3)", 1).tells("lay(0, 0, 1)", 1).tells("lay(0, 1, 2)", 1).tells("lay(0, 2, 3)", 2)
            .tells("lay(0, 3, 4)", 3);
        x.is("copy(0, 1, 0, 0, 3)", 1).tells("lay(0, 0, 1)", 2).tells("lay(0, 1, 2)", 3).tells("lay(0, 2, 3)", 4)
            .tells("lay(0, 3, 4)", 4);
        x.is("copy(0, 0, 0, 0, 4)", 1).tells("lay(0, 3, 4)", 4).is("asked()", 4);
        Edge y = Edge.of("5 copy: all 40 places, the others stay")
            .run("row(0, 40)", "row(1, 40)", "lay(0, 0, 8)", "lay(0, 39, 9)");
        y.is("copy(0, 0, 1, 0, 40)", 1).tells("lay(1, 0, 1)", 8).tells("lay(1, 39, 1)", 9).tells("lay(0, 39, 1)", 9);
        y.beyond("copy(0, 0, 1, 0, 41)", "copy(0, 1, 1, 0, 40)", "copy(0, 0, 1, 1, 40)");
        Edge.of("5 copy: n places alone").lay(0, 1, 2, 3).lay(1, 7, 8, 9).is("copy(0, 1, 1, 1, 1)", 1)
            .tells("lay(1, 0, 0)", 7).tells("lay(1, 1, 0)", 2).tells("lay(1, 2, 0)", 9);
    }

    private static void mean() {
        Edge.of("6 mean: BAD").run("row(0, 1)", "row(5, 1)").within("mean(#)", 0, 5);
        Edge.of("6 mean: NOTHING").nothing("mean(0)", "mean(5)").run("row(0, 2)", "tear(0)").nothing("mean(0)");
        Edge.of("6 mean: NOUGHT").run("row(0, 0)", "row(1, 1)", "lay(1, 0, 3)").nought("mean(0)").tells("mean(1)", 3);
        Edge.of("6 mean: cut").lay(0, 1, 2).tells("mean(0)", 1).lay(0, -1, -2).tells("mean(0)", -1).lay(0, 0, -1)
            .tells("mean(0)", 0).lay(0, 5, 5, 4).tells("mean(0)", 4).lay(0, -5, -5, -4).tells("mean(0)", -4);
        Edge x = Edge.of("6 mean: a sum that would wrap around").run("row(0, 40)", "row(1, 40)");
        for (int i = 0; i < 40; i++) {
            x.run("lay(0, " + i + ", MAX)", "lay(1, " + i + ", MIN)");
        }
        x.tells("mean(0)", Integer.MAX_VALUE).tells("mean(1)", Integer.MIN_VALUE);
        Edge.of("6 mean: of both ends of int").lay(0, Integer.MAX_VALUE, Integer.MIN_VALUE).tells("mean(0)", 0)
            .lay(0, Integer.MIN_VALUE, Integer.MIN_VALUE, 1).tells("mean(0)", -1431655765).lay(0, Integer.MAX_VALUE, 1)
            .tells("mean(0)", 1073741824).lay(0, Integer.MIN_VALUE).tells("mean(0)", Integer.MIN_VALUE);
    }

    private static void text() {
        Edge.of("7 text: TEXTS 0 .. 3").within("text(#, 3)", 0, 3);
        Edge.of("7 text: BAD: also n above 40; SIZE: below 0").within("text(0, #)", 0, 40, Refusal.SIZE, Refusal.BAD);
        Edge.of("7 text: BAD ahead of SIZE").bad("text(4, -1)", "text(-1, -1)", "text(MAX, MIN)", "text(MIN, MAX)");
        Edge.of("7 text: n").is("text(0, 0)", 0).is("text(1, 1)", 1).is("text(2, 39)", 39).is("text(3, 40)", 40)
            .is("count(9)", 4);
        Edge.of("7 text: of 0 bytes").run("text(0, 0)").beyond("put(0, 0, 1)").is("count(9)", 1);
        Edge.of("7 text: of 40 bytes").run("text(0, 40)").is("put(0, 39, 1)", 1032).beyond("put(0, 40, 1)");
        Edge x = Edge.of("7 text: blanks, also one that was there").write(0, "abc");
        x.is("text(0, 3)", 3).is("put(0, 0, 65)", 1032).is("put(0, 1, 65)", 1032).is("put(0, 2, 65)", 1032);
        x.is("text(0, 1)", 1).beyond("put(0, 1, 65)").is("text(0, 3)", 3).is("put(0, 2, 65)", 1032).is("count(9)", 1);
        Edge.of("7 text: what is refused leaves the TEXT").write(0, "ab").bad("text(0, 41)").size("text(0, -1)")
            .is("put(0, 1, 98)", 1098).beyond("put(0, 2, 1)");
    }

    private static void put() {
        Edge.of("8 put: BAD").run("text(0, 1)", "text(3, 1)").within("put(#, 0, 1)", 0, 3);
        Edge.of("8 put: NOTHING").nothing("put(0, 0, 1)", "put(3, 0, 1)");
        Edge.of("8 put: BEYOND").run("text(2, 7)").within("put(2, #, 1)", 0, 6, Refusal.BEYOND, Refusal.BEYOND);
        Edge.of("8 put: BEYOND in an empty TEXT").run("text(2, 0)")
            .beyond("put(2, 0, 1)", "put(2, -1, 1)", "put(2, MAX, 1)");
        Edge.of("8 put: BEYOND in a full TEXT").run("text(2, 40)")
            .within("put(2, #, 1)", 0, 39, Refusal.BEYOND, Refusal.BEYOND);
        Edge.of("8 put: BAD ahead of NOTHING and BEYOND").bad("put(4, 0, 1)", "put(-1, 99, 1)");
        Edge.of("8 put: NOTHING ahead of BEYOND").nothing("put(0, -1, 1)", "put(0, 40, 1)", "put(0, MIN, 1)");
        Edge x = Edge.of("8 put: v, cut to a byte: what it was, and 1000 more").run("text(0, 1)", "put(0, 0, 0)");
        int[][] cuts = {{127, 1127}, {128, 872}, {255, 999}, {256, 1000}, {257, 1001}, {-1, 999}, {-128, 872},
            {-129, 1127},
            {-256, 1000}, {383, 1127}, {384, 872}, {Integer.MAX_VALUE, 999}, {Integer.MIN_VALUE, 1000}, {65535, 999}};
        int was = 1000;
        for (int[] cut : cuts) {
            x.is("put(0, 0, " + cut[0] + ")", was);
            was = cut[1];
        }
        x.is("put(0, 0, 0)", was);
    }
}
