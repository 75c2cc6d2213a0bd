/** The boundary cases of promises 40 to 44: LOOKS, where a BOOK may stand, SEARCHES, how many stand wrong. */
final class LooksEdges {
    private LooksEdges() {
    }

    static void all() {
        along();
        alongKinds();
        looksAreFull();
        likelyBounds();
        likelyNeighbours();
        likelyFigures();
        likelyReaders();
        likelyFloor();
        searchBounds();
        searchOrder();
        searchMinutes();
        searchAlike();
        searchEnds();
        wrong();
        look();
    }

    private static void along() {
        Edge.of("40 along: BAD").within("along(#)", 0, 7);
        Edge.of("40 along: a room without BOOKS").is("along(0)", 0).is("asked()", 0).is("count(5)", 0);
        Edge.of("40 along: an empty SHELF").run("book(1, 3, false)", "told(0, 1)").is("along(2)", 0).is("asked()", 0)
            .is("along(4)", 0).is("count(5)", 0).is("along(3)", 0).is("count(5)", 1);
        Edge.of("40 along: the first SHELF and the last")
            .run("book(1, 0, false)", "book(2, 7, false)", "lose(0)", "lose(1)").is("along(0)", 0).is("asked()", 1)
            .is("along(7)", 0).is("asked()", 1).tells("told(0, 4)", 3).tells("told(1, 4)", 3);
    }

    private static void alongKinds() {
        Edge x = Edge.ofKinds("40 along: of each KIND, along its own SHELF").is("along(2)", 0).is("asked()", 2)
            .is("count(5)", 3);
        x.is("look(0, 0, 1)", 1).is("look(4, 0, 1)", 0).is("look(6, 0, 1)", 0)
            .none("look(1, 0, 1)", "look(2, 0, 1)", "look(3, 0, 1)");
        x.none("look(5, 0, 1)").tells("told(4, 4)", 3).tells("told(6, 4)", 3).tells("told(1, 4)", 1)
            .tells("told(3, 4)", 2);
        x.is("along(2)", 0).is("asked()", 0).is("count(5)", 4);
        Edge.ofKinds("40 along: how many stood wrong, along another SHELF").is("along(4)", 0).is("along(6)", 0)
            .is("along(5)", 1).is("asked()", 0).tells("told(4, 0)", 0).tells("told(4, 4)", 0).is("look(4, 0, 1)", 1)
            .is("along(5)", 0).is("count(5)", 1);
        Edge.ofKinds("40 along: one MISSING is found on a WRONG SHELF").is("along(2)", 0).tells("told(4, 4)", 3)
            .is("along(5)", 1).tells("told(4, 4)", 0).tells("told(4, 0)", 0).is("look(4, 0, 1)", 0)
            .is("look(4, 1, 1)", 1);
        Edge.ofKinds("40 along: one LOST by its READER is not BELIEVED on its SHELF").run("lose(1)").is("along(2)", 0)
            .is("asked()", 2).tells("told(1, 4)", 1).none("look(1, 0, 0)");
    }

    private static void looksAreFull() {
        Edge x = Edge.of("40 along: LOOKS: 40 at most; none is told beyond");
        for (int b = 0; b < 24; b++) {
            x.run("book(" + b + ", 4, false)");
        }
        x.is("along(4)", 0).is("count(5)", 24).run("later(1)", "lose(20)").is("along(4)", 0).is("asked()", 1)
            .is("count(5)", 40);
        x.is("look(15, 1, 0)", 1).none("look(16, 1, 0)", "look(20, 1, 0)").tells("told(20, 4)", 3).is("wrong()", 47);
        x.is("along(4)", 0).is("asked()", 0).is("count(5)", 40).is("wrong()", 70);
        Edge y = Edge.of("40 along: one that stood wrong comes home beyond 40 LOOKS")
            .run("book(1, 0, false)", "book(2, 7, false)").asks(0, 1);
        y.run("send(0, 0)", "later(4)", "back(0, 5)").times(40, "along(7)").is("count(5)", 40).is("along(5)", 1)
            .is("count(5)", 40);
        y.tells("told(0, 0)", 0).none("look(0, 0, 0)").is("wrong()", 41).is("upper()", 2).is("lower()", 41);
    }

    private static void likelyBounds() {
        Edge.of("41 likely: BAD: BOOK").bad("likely(0, 0)").run("book(1, 0, false)", "book(2, 0, false)")
            .within("likely(#, 0)", 0, 1);
        Edge.of("41 likely: BAD: SHELF").run("book(1, 0, false)").within("likely(0, #)", 0, 7);
    }

    private static void likelyNeighbours() {
        Edge.of("41 likely: 4: the next greater and the next lesser MARK").run("book(5000, 0, false)")
            .is("likely(0, 4)", 0).run("book(5001, 4, false)").is("likely(0, 4)", 4).run("book(4999, 4, false)")
            .is("likely(0, 4)", 8).run("book(4998, 6, false)", "book(5002, 6, false)").is("likely(0, 6)", 0)
            .is("likely(0, 4)", 8);
        Edge.of("41 likely: 4: the least and the greatest MARK").run("book(0, 0, false)", "book(9999, 4, false)")
            .is("likely(0, 4)", 4).is("likely(1, 0)", 4).is("likely(0, 2)", 0);
        Edge.of("41 likely: 4: of the least one, of the greatest one")
            .run("book(10, 0, false)", "book(55, 4, false)", "book(99, 6, false)").is("likely(0, 4)", 4)
            .is("likely(0, 6)", 0).is("likely(2, 4)", 4).is("likely(2, 0)", 0).is("likely(1, 0)", 4)
            .is("likely(1, 6)", 4);
    }

    private static void likelyFigures() {
        Object[][] pairs = {{1234, 2134, 3}, {1234, 1324, 3}, {1234, 1243, 3}, {1234, 3214, 0}, {1234, 4231, 0},
            {1234, 1432, 0},
            {1, 10, 3}, {1, 100, 0}, {10, 100, 3}, {100, 1000, 3}, {1000, 100, 3}, {9000, 900, 3}, {90, 9, 3},
                {9, 9000, 0},
            {9899, 9989, 3}, {9998, 9989, 3}, {0, 1, 0}, {1122, 1212, 3}, {1122, 2211, 0}, {9, 90, 3}};
        for (Object[] pair : pairs) {
            int mark = (Integer) pair[0];
            int other = (Integer) pair[1];
            Edge x = Edge.of("41 likely: 3: two figures that stand beside each other (" + mark + ", " + other + ")");
            x.run("book(" + mark + ", 0, false)", "book(" + other + ", 4, false)")
                .is("likely(0, 4)", 4 + (Integer) pair[2]);
            x.is("likely(1, 0)", 4 + (Integer) pair[2]);
        }
        Edge.of("41 likely: 3 for each")
            .run("book(1234, 0, false)", "book(2134, 4, false)", "book(1324, 4, false)", "book(1243, 4, false)")
            .run("book(1233, 2, false)", "book(1235, 2, false)").is("likely(0, 4)", 9).is("likely(0, 2)", 8);
        Edge.of("41 likely: 3 not for alike figures").run("book(1111, 0, false)", "book(2222, 4, false)")
            .is("likely(0, 4)", 4);
        Edge.of("41 likely: 0 for its own SHELF")
            .run("book(1234, 0, false)", "book(1243, 0, false)", "book(1233, 0, false)").is("likely(0, 0)", 0)
            .is("likely(0, 1)", 1);
    }

    private static void likelyReaders() {
        Edge x = Edge.of("41 likely: 2 for each that the READER who HAD it last ever HAD (not itself)");
        x.run("book(10, 0, false)", "book(30, 2, false)", "book(50, 4, false)", "book(70, 6, false)",
            "book(90, 6, false)");
        x.asks(1, 10).asks(1, 70).run("send(0, 0)", "send(1, 1)").is("likely(0, 6)", 0).run("later(9)")
            .is("likely(0, 6)", 0);
        x.run("later(1)").is("likely(0, 6)", 2).asks(1, 90).run("send(1, 2)", "later(10)").is("likely(0, 6)", 4);
        x.run("back(3, 6)", "lose(4)", "back(0, 0)").is("likely(0, 6)", 4).is("likely(0, 0)", 0).asks(2, 10)
            .run("send(2, 3)");
        x.is("likely(0, 6)", 4).run("later(4)").is("likely(0, 6)", 0).is("likely(3, 0)", 2).is("likely(1, 6)", 0);
        Edge.of("41 likely: 2 once, though he HAD it two times")
            .run("book(10, 0, false)", "book(30, 2, false)", "book(50, 4, false)").asks(1, 50)
            .run("send(0, 0)", "later(8)", "back(2, 4)").asks(1, 50).run("send(0, 1)", "later(8)", "back(2, 4)")
            .asks(1, 10).run("send(0, 2)", "later(4)").is("count(6)", 3).is("likely(0, 4)", 2);
        Edge.of("41 likely: READERS 0 and 7").run("book(10, 0, false)", "book(30, 2, false)", "book(50, 4, false)")
            .asks(0, 10).asks(7, 50).run("send(0, 0)", "send(1, 1)", "later(8)").is("likely(0, 4)", 0)
            .is("likely(2, 0)", 0);
    }

    private static void likelyFloor() {
        Edge x = Edge.of("41 likely: 1, if the SHELF is on the FLOOR of its own one");
        for (int shelf = 0; shelf < 8; shelf++) {
            x.run("book(" + 11 * shelf + ", " + shelf + ", false)");
        }
        for (int shelf = 0; shelf < 8; shelf++) {
            int beside = shelf % 2 == 0 ? shelf + 1 : shelf - 1;
            x.is("likely(" + shelf + ", " + beside + ")", 5).is("likely(" + shelf + ", " + shelf + ")", 0);
            x.is("likely(" + shelf + ", " + (shelf + 4) % 8 + ")", 0);
        }
    }

    private static void searchBounds() {
        Edge.of("42 search: BAD: BOOK").lay(0, 5, 5, 5, 5, 5, 5, 5, 5).bad("search(0, 0, 5)")
            .run("book(1, 0, false)", "book(2, 0, false)").within("search(#, 0, 5)", 0, 1);
        Edge.of("42 search: BAD: ROW").run("book(1, 0, false)").lay(0, 5, 5, 5, 5, 5, 5, 5, 5)
            .lay(5, 1, 1, 1, 1, 1, 1, 1, 1).within("search(0, #, 5)", 0, 5);
        Edge.of("42 search: BAD: m").run("book(1, 0, false)").lay(0, 5, 5, 5, 5, 5, 5, 5, 5)
            .within("search(0, 0, #)", 0, 480);
        Edge.of("42 search: NOTHING").run("book(1, 0, false)").nothing("search(0, 0, 5)", "search(0, 5, 0)");
        Edge.of("42 search: SIZE: not eight").run("book(1, 0, false)").lay(0, 5, 5, 5, 5, 5, 5, 5)
            .size("search(0, 0, 5)").lay(0, 5, 5, 5, 5, 5, 5, 5, 5, 5).size("search(0, 0, 5)").run("row(0, 0)")
            .size("search(0, 0, 5)").run("row(0, 40)").size("search(0, 0, 5)").lay(0, 5, 5, 5, 5, 5, 5, 5, 5)
            .is("search(0, 0, 5)", 2);
        for (int place = 0; place < 8; place++) {
            Edge x = Edge.of("42 search: UNLIKE: minutes of a SHELF").run("book(1, 0, false)")
                .lay(0, 5, 5, 5, 5, 5, 5, 5, 5);
            for (String wrong : new String[] {"0", "61", "-1", "MIN", "MAX"}) {
                x.run("lay(0, " + place + ", " + wrong + ")").unlike("search(0, 0, 5)");
            }
            x.run("lay(0, " + place + ", 1)").is("search(0, 0, 5)", 2).run("lay(0, " + place + ", 60)");
            x.is("search(0, 0, 5)", place == 1 ? 0 : 2);
        }
    }

    private static void searchOrder() {
        Edge.of("42 search: BAD ahead of NOTHING, SIZE, UNLIKE").run("book(1, 0, false)", "row(1, 3)", "row(2, 8)")
            .bad("search(1, 0, 5)", "search(0, 0, 481)", "search(0, 1, -1)", "search(-1, 2, 5)", "search(0, 2, MAX)",
            "search(0, 2, MIN)");
        Edge.of("42 search: SIZE ahead of UNLIKE").run("book(1, 0, false)", "row(1, 7)", "row(2, 9)")
            .size("search(0, 1, 5)", "search(0, 2, 5)");
    }

    private static void searchMinutes() {
        Edge x = Edge.of("42 search: in these minutes")
            .run("book(50, 0, false)", "book(70, 4, false)", "book(30, 6, false)");
        x.lay(0, 1, 10, 1, 1, 20, 1, 30, 1).is("search(0, 0, 0)", 0).is("asked()", 0).is("search(0, 0, 9)", 0)
            .is("asked()", 0);
        x.is("search(0, 0, 10)", 2).is("asked()", 1).is("search(0, 0, 19)", 2).is("search(0, 0, 20)", 16)
            .is("asked()", 4);
        x.is("search(0, 0, 29)", 16).is("search(0, 0, 30)", 18).is("asked()", 5).is("search(0, 0, 49)", 18)
            .is("search(0, 0, 50)", 80);
        x.is("asked()", 8).is("search(0, 0, 59)", 80).is("search(0, 0, 60)", 82).is("asked()", 9)
            .is("search(0, 0, 480)", 82);
        Edge.of("42 search: 60 minutes each").run("book(50, 0, false)").lay(0, 60, 60, 60, 60, 60, 60, 60, 60)
            .is("search(0, 0, 480)", 2).is("search(0, 0, 60)", 2).is("search(0, 0, 59)", 0);
        Edge.of("42 search: none that is LIKELY in these minutes").run("book(50, 0, false)")
            .lay(0, 1, 60, 1, 1, 1, 1, 1, 1).is("search(0, 0, 59)", 0).is("asked()", 0);
    }

    private static void searchAlike() {
        Edge.of("42 search: of alike ones the fewest minutes")
            .run("book(50, 0, false)", "book(70, 4, false)", "book(30, 6, false)").lay(0, 1, 60, 1, 1, 9, 1, 8, 1)
            .is("search(0, 0, 9)", 64).is("asked()", 4);
        Edge.of("42 search: then the least bits").run("book(50, 0, false)", "book(70, 4, false)", "book(30, 6, false)")
            .lay(0, 1, 60, 1, 1, 9, 1, 9, 1).is("search(0, 0, 9)", 16).is("search(0, 0, 17)", 16)
            .is("search(0, 0, 18)", 80);
        Edge.of("42 search: a SHELF on which it is not LIKELY is none of them")
            .run("book(50, 7, false)", "book(70, 6, false)").lay(0, 1, 1, 1, 1, 1, 1, 1, 1).is("search(0, 0, 480)", 64)
            .is("asked()", 5);
    }

    private static void searchEnds() {
        Edge.of("42 search: the first SHELF alone, the last one alone").lay(0, 1, 1, 1, 1, 1, 1, 1, 1)
            .run("book(50, 4, false)", "book(70, 0, false)", "book(30, 7, false)").lay(1, 9, 9, 9, 9, 9, 9, 9, 8)
            .is("search(0, 1, 8)", 128).is("asked()", 4).run("lay(1, 0, 7)").is("search(0, 1, 8)", 1).is("asked()", 4)
            .is("search(0, 0, 2)", 129).is("asked()", 8).is("search(0, 0, 3)", 161).is("asked()", 9);
    }

    private static void wrong() {
        Edge.of("43 wrong: NOUGHT: none").nought("wrong()").run("book(1, 0, false)", "along(5)").nought("wrong()")
            .run("lose(0)", "along(0)").is("asked()", 1).nought("wrong()").run("find(0)", "along(0)").is("wrong()", 1)
            .is("upper()", 0).is("lower()", 1);
        Edge.of("43 wrong: 0 by 1").run("book(1, 0, false)", "book(2, 0, false)", "along(0)").is("wrong()", 2)
            .is("upper()", 0).is("lower()", 1);
        Edge x = Edge.of("43 wrong: in lowest terms").run("book(1, 0, false)", "book(2, 5, false)", "book(3, 5, false)")
            .asks(0, 1);
        x.run("send(0, 0)", "later(4)", "back(0, 5)", "along(5)").is("wrong()", 3).is("upper()", 1).is("lower()", 1);
        x.run("along(5)").is("wrong()", 5).is("upper()", 3).is("lower()", 5).run("along(0)").is("wrong()", 6)
            .is("upper()", 1).is("lower()", 2);
        x.run("book(4, 7, false)").is("upper()", 1).is("wrong()", 6).is("upper()", 2).is("lower()", 3);
        Edge.of("43 wrong: a refused one leaves the fraction").nought("wrong()").is("upper()", 0).is("lower()", 1);
    }

    private static void look() {
        Edge.of("44 look: BAD: BOOK").bad("look(0, 0, 0)").run("book(1, 0, false)", "book(2, 0, false)", "along(0)")
            .within("look(#, 0, 0)", 0, 1);
        Edge.of("44 look: BAD: what").run("book(1, 0, false)", "along(0)").within("look(0, 0, #)", 0, 1);
        Edge.of("44 look: BAD ahead of NONE").run("book(1, 0, false)")
            .bad("look(1, 0, 0)", "look(0, 5, 2)", "look(0, -1, -1)");
        Edge x = Edge.of("44 look: NONE: none such").run("book(1, 0, false)", "book(2, 1, false)")
            .none("look(0, 0, 0)", "look(0, 0, 1)");
        x.run("later(3)", "along(0)", "later(2)", "along(1)", "along(0)").is("look(0, 0, 0)", 3).is("look(0, 1, 0)", 5)
            .is("look(1, 0, 0)", 5);
        x.none("look(0, 2, 0)", "look(1, 1, 0)", "look(0, -1, 0)", "look(0, MAX, 1)", "look(0, MIN, 1)",
            "look(1, 40, 1)");
        Edge y = Edge.of("44 look: the last of 40").run("book(1, 0, false)").times(39, "along(0)")
            .run("later(99999)", "along(0)", "along(0)");
        y.is("look(0, 38, 0)", 0).is("look(0, 39, 0)", 99999).none("look(0, 40, 0)");
    }
}
