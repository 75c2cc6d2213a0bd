/** The boundary cases of promises 9 to 18: minutes, and BOOKS at their PLACES. */
final class BooksEdges {
    private BooksEdges() {
    }

    static void all() {
        later();
        going();
        binder();
        kept();
        laterByNumber();
        book();
        told();
        believed();
        mark();
        has();
        keep();
        back();
        bind();
        lose();
        find();
        had();
    }

    private static void later() {
        Edge.of("9 later: BAD: below 0, or beyond 99999").within("later(#)", 0, 99999);
        Edge.of("9 later: from another minute on").run("later(5)").within("later(#)", 0, 99994)
            .is("later(99994)", 99999);
        Edge.of("9 later: at the last minute").run("later(99999)").within("later(#)", 0, 0).is("later(0)", 99999);
        Edge.of("9 later: a minute ahead of the last").run("later(99998)").bad("later(2)").is("later(1)", 99999);
        Edge.of("9 later: it").is("later(0)", 0).is("later(7)", 7).is("later(0)", 7).is("later(1)", 8)
            .is("count(0)", 8);
    }

    private static void going() {
        Edge x = Edge.of("9 later: who was GOING till a minute is at the SEAT from that on, its SLIP DONE");
        x.run("book(1, 2, false)").asks(3, 1).run("send(1, 0)", "later(5)").tells("told(0, 0)", 5)
            .tells("slipTold(0, 0)", 1);
        x.tells("slipTold(0, 4)", ReadersRoom.NONE).is("has(3)", 0).is("count(6)", 0);
        x.run("later(1)").tells("told(0, 0)", 1).tells("slipTold(0, 0)", 2).tells("slipTold(0, 4)", 6).is("has(3)", 1);
        x.is("count(6)", 1).run("later(99993)").tells("told(0, 0)", 1).is("has(3)", 1);
        Edge.of("9 later: beyond the minute till which one was GOING").run("book(1, 2, false)").asks(3, 1)
            .run("send(1, 0)", "later(99999)").tells("told(0, 0)", 1).tells("slipTold(0, 4)", 6).is("count(6)", 1);
    }

    private static void binder() {
        Edge x = Edge.of("9 later: who was at the BINDER till a minute is on its SHELF from that on");
        x.run("book(1, 2, false)", "bind(0, 9)", "later(8)").tells("told(0, 0)", 3).tells("told(0, 4)", 2);
        x.run("later(1)").tells("told(0, 0)", 0).tells("told(0, 4)", 0);
        Edge.of("9 later: at the BINDER till the last minute")
            .run("book(1, 2, false)", "bind(0, 99999)", "later(99998)").tells("told(0, 0)", 3).run("later(1)")
            .tells("told(0, 0)", 0);
    }

    private static void kept() {
        Edge x = Edge.of("9 later: who was KEPT till a DAY is on its SHELF from the first minute of the next DAY on");
        x.run("book(1, 0, false)").asks(3, 1).run("send(0, 0)", "later(4)").is("keep(0)", 3).run("later(5755)");
        x.is("count(0)", 4 * 1440 - 1).tells("told(0, 0)", 2).is("has(3)", 1).run("later(1)").tells("told(0, 0)", 0);
        x.tells("told(0, 4)", 0).is("has(3)", 0).unlike("mark(0, 1)", "mark(0, 2)");
        Edge.of("9 later: KEPT till the DAY of NOW").run("book(1, 0, false)").rules("K0", 0).asks(3, 1)
            .run("send(0, 0)", "later(4)").is("keep(0)", 0).run("later(1435)").tells("told(0, 0)", 2).run("later(1)")
            .tells("told(0, 0)", 0);
        Edge.of("9 later: KEPT beyond all DAYS").run("book(1, 0, false)").rules("K70", 0).asks(3, 1)
            .run("send(0, 0)", "later(4)").is("keep(0)", 70).run("later(99995)").tells("told(0, 0)", 2).is("has(3)", 1);
        Edge.of("9 later: KEPT till DAY 68, and till DAY 69").run("book(1, 0, false)", "book(2, 0, false)")
            .rules("K68", 0).asks(3, 1).asks(3, 2).run("send(0, 0)", "send(1, 1)", "later(4)").is("keep(0)", 68)
            .rules("K69", 0).is("keep(1)", 69).run("later(99355)").is("count(0)", 69 * 1440 - 1).tells("told(0, 0)", 2)
            .run("later(1)").tells("told(0, 0)", 0).tells("told(1, 0)", 2).run("later(639)").is("count(0)", 99999)
            .tells("told(1, 0)", 2);
    }

    /** The HADs of one later() are told BOOK by BOOK, whoever came first: the digest has them in their order. */
    private static void laterByNumber() {
        Edge x = Edge.of("9 later: BOOKS by number");
        x.run("book(1, 6, false)", "book(2, 0, false)").asks(1, 1).asks(2, 2)
            .run("text(2, 0)", "send(0, 0)", "send(1, 1)");
        x.run("later(20)").digests("20 2 2 0 0 0 2 0 0 1 | 1 1 6 0 1 1 | 1 2 0 0 1 2 | 2 1 0 0 10 | 2 2 1 0 4",
            "1 10 1 4 1 0 | 0 1 10 -9 | 1 2 4 -9 | -1 -1 -1 -1 -1 -1 | -1 -1 0 -1");
    }

    private static void book() {
        Edge.of("10 book: BAD: MARK").within("book(#, 0, false)", 0, 9999);
        Edge.of("10 book: BAD: SHELF").within("book(5, #, true)", 0, 7);
        Edge.of("10 book: UNLIKE: another one has that MARK").run("book(0, 0, false)", "book(9999, 7, true)")
            .unlike("book(0, 0, false)", "book(9999, 0, false)", "book(0, 7, true)").is("book(1, 0, false)", 2)
            .is("book(9998, 0, false)", 3);
        Edge.of("10 book: BAD ahead of UNLIKE").run("book(5, 0, false)").bad("book(5, 8, false)", "book(5, -1, false)");
        Edge x = Edge.of("10 book: its number; FULL beyond 24");
        for (int b = 0; b < 24; b++) {
            x.is("book(" + 400 * b + ", " + b % 8 + ", false)", b);
        }
        x.full("book(1, 0, false)").is("count(1)", 24).tells("told(23, 1)", 9200);
        Edge y = Edge.of("10 book: BAD ahead of FULL, FULL ahead of UNLIKE");
        for (int b = 0; b < 24; b++) {
            y.run("book(" + b + ", 7, true)");
        }
        y.bad("book(10000, 0, false)", "book(-1, 0, false)", "book(30, 8, false)")
            .full("book(0, 0, false)", "book(23, 7, true)");
        y.bad("book(MIN, MIN, false)", "book(MAX, MAX, true)");
    }

    private static void told() {
        Edge.of("11 told: BAD in a room without BOOKS")
            .bad("told(0, 0)", "told(-1, 0)", "told(MAX, 0)", "told(MIN, 4)");
        Edge.of("11 told: BAD: BOOK").run("book(5, 0, false)", "book(6, 0, false)").within("told(#, 1)", 0, 1);
        Edge.of("11 told: BAD: what").run("book(5, 0, false)").within("told(0, #)", 0, 4);
        Edge.of("11 told: the last BOOK of 24 is told, the next is BAD").run("book(5, 0, false)")
            .bad("told(1, 0)", "told(23, 0)");
        Edge.of("11 told: the least and the greatest").run("book(0, 0, false)", "book(9999, 7, true)")
            .tells("told(0, 0)", 0).tells("told(0, 1)", 0).tells("told(0, 2)", 0).tells("told(0, 3)", 0)
            .tells("told(0, 4)", 0).tells("told(1, 1)", 9999).tells("told(1, 2)", 7).tells("told(1, 3)", 1);
        Edge x = Edge.ofKinds("11 told: each KIND");
        int[] believed = {0, 1, 1, 2, 0, 1, 0};
        for (int kind = 0; kind <= 6; kind++) {
            x.tells("told(" + kind + ", 0)", kind).tells("told(" + kind + ", 4)", believed[kind]);
        }
    }

    private static void believed() {
        Edge.ofKinds("Terms 1 BELIEVED: 0 as one is put on a WRONG SHELF, also one that was BELIEVED with a READER")
            .tells("told(1, 4)", 1).run("back(1, 0)").tells("told(1, 4)", 0);
        Edge.ofKinds("Terms 1 BELIEVED: it stays as one is LOST").run("lose(0)", "lose(1)", "lose(2)", "lose(4)")
            .tells("told(0, 4)", 0).tells("told(1, 4)", 1).tells("told(2, 4)", 1).tells("told(4, 4)", 0);
        Edge.ofKinds("Terms 1 BELIEVED: MISSING stays as one is LOST").run("along(2)").tells("told(4, 4)", 3)
            .run("lose(4)").tells("told(4, 4)", 3).run("find(4)").tells("told(4, 4)", 0);
    }

    private static void mark() {
        Edge x = Edge.ofKinds("12 mark: what a BOOK tells at a PLACE that IS of a KIND; UNLIKE");
        int[] due = {0, 1, 3, 500, 5, 0, 6};
        for (int b = 0; b <= 6; b++) {
            for (int kind = 1; kind <= 6; kind++) {
                String call = "mark(" + b + ", " + kind + ")";
                if (kind == b) {
                    x.is(call, due[b]);
                } else if (b == 2 && kind == 1) {
                    x.is(call, 2);
                } else {
                    x.unlike(call);
                }
            }
        }
        Edge y = Edge.ofKinds("12 mark: BAD: also KIND 0; ahead of UNLIKE");
        for (int b = 0; b <= 6; b++) {
            y.bad("mark(" + b + ", 0)", "mark(" + b + ", 7)", "mark(" + b + ", -1)");
        }
        y.bad("mark(0, MIN)", "mark(0, MAX)", "mark(7, 1)", "mark(-1, 1)", "mark(MIN, 1)", "mark(MAX, 1)",
            "mark(7, 0)");
        Edge.of("12 mark: BAD in a room without BOOKS").bad("mark(0, 1)", "mark(0, 0)");
        Edge.of("12 mark: the ends").run("book(1, 7, false)").asks(7, 1).run("send(2, 0)").is("mark(0, 5)", 2)
            .run("later(10)").is("mark(0, 1)", 7).run("back(0, 0)").is("mark(0, 4)", 0).run("later(99989)", "lose(0)")
            .is("mark(0, 6)", 99999);
        Edge.of("12 mark: the ends").run("book(1, 0, false)", "bind(0, 99999)").is("mark(0, 3)", 99999);
        Edge.of("12 mark: the least ones").run("book(1, 7, false)").asks(0, 1).run("send(0, 0)").is("mark(0, 5)", 0)
            .run("later(10)").is("mark(0, 1)", 0).rules("K0", 0).run("keep(0)").is("mark(0, 1)", 0).is("mark(0, 2)", 0);
    }

    private static void has() {
        Edge.of("13 has: BAD").within("has(#)", 0, 7);
        Edge x = Edge.ofKinds("13 has: BOOKS at SEATS and KEPT for him");
        int[] due = {0, 1, 1, 0, 0, 0, 0, 0};
        for (int reader = 0; reader <= 7; reader++) {
            x.is("has(" + reader + ")", due[reader]);
        }
        Edge.of("13 has: one given back, one LOST no more").run("book(7, 0, false)", "book(8, 1, false)").asks(7, 7)
            .asks(7, 8).run("send(0, 0)", "send(1, 1)", "later(4)").is("has(7)", 2).run("keep(0)").is("has(7)", 2)
            .run("back(0, 0)").is("has(7)", 1).run("lose(1)").is("has(7)", 0);
    }

    private static void keep() {
        Edge.of("14 keep: BAD").bad("keep(0)").run("book(5, 0, false)")
            .bad("keep(-1)", "keep(1)", "keep(MIN)", "keep(MAX)");
        Edge x = Edge.ofKinds("14 keep: STATE: not at a SEAT, or KEPT");
        x.state("keep(0)", "keep(2)", "keep(3)", "keep(4)", "keep(5)", "keep(6)").bad("keep(7)").is("keep(1)", 3);
        x.state("keep(1)").is("mark(1, 1)", 1).is("mark(1, 2)", 3);
        Edge.of("14 keep: DAY of NOW and K: the last minute of a DAY").run("book(1, 0, false)").asks(0, 1)
            .run("send(0, 0)", "later(1439)").is("keep(0)", 3);
        Edge.of("14 keep: DAY of NOW and K: the first minute of a DAY").run("book(1, 0, false)").asks(0, 1)
            .run("send(0, 0)", "later(1440)").is("keep(0)", 4);
        Edge.of("14 keep: K 99 at the last minute").run("book(1, 0, false)").asks(0, 1)
            .run("send(0, 0)", "later(99999)").rules("K99", 69).is("keep(0)", 168).is("mark(0, 2)", 168)
            .is("later(0)", 99999).tells("told(0, 0)", 2);
        Edge.of("14 keep: K of the DAY of NOW").run("book(1, 0, false)", "book(2, 0, false)").asks(0, 1).asks(0, 2)
            .run("send(0, 0)", "send(1, 1)").rules("K7", 1).run("later(1439)").is("keep(0)", 3).run("later(1)")
            .is("keep(1)", 8);
    }

    private static void back() {
        Edge.of("15 back: BAD in a room without BOOKS").bad("back(0, 0)", "back(-1, 0)");
        Edge.ofKinds("15 back: BAD: SHELF").within("back(1, #)", 0, 7);
        Edge.ofKinds("15 back: BAD: BOOK").bad("back(-1, 0)", "back(7, 0)", "back(MIN, 0)", "back(MAX, 0)");
        Edge x = Edge.ofKinds("15 back: STATE: no READER HAS it");
        x.state("back(0, 2)", "back(3, 2)", "back(4, 2)", "back(4, 5)", "back(5, 2)", "back(6, 2)");
        Edge.ofKinds("15 back: BAD ahead of STATE").bad("back(0, 8)", "back(3, -1)", "back(6, MAX)", "back(5, MIN)");
        Edge.ofKinds("15 back: 1 its own, 0 a WRONG one").is("back(1, 2)", 1).tells("told(1, 0)", 0).is("back(2, 3)", 0)
            .tells("told(2, 0)", 4).is("mark(2, 4)", 3).state("back(1, 2)", "back(2, 2)");
        Edge.ofKinds("15 back: the SHELF ahead of its own, KEPT to its own").is("back(1, 1)", 0).is("mark(1, 4)", 1)
            .is("back(2, 2)", 1).tells("told(2, 0)", 0).is("has(2)", 0);
        Edge.ofKinds("15 back: KEPT no more on the next DAY").run("back(2, 3)", "later(10000)").tells("told(2, 0)", 4);
    }

    private static void bind() {
        Edge.of("16 bind: BAD in a room without BOOKS").bad("bind(0, 9)");
        Edge.of("16 bind: BAD: not behind NOW").run("book(5, 0, false)", "later(10)").within("bind(0, #)", 11, 99999);
        Edge.of("16 bind: BAD: BOOK").run("book(5, 0, false)", "book(6, 0, false)").within("bind(#, 9)", 0, 1);
        Edge.of("16 bind: at the last minute but one").run("book(5, 0, false)", "later(99998)")
            .bad("bind(0, 99998)", "bind(0, 100000)").is("bind(0, 99999)", 1).run("later(1)").tells("told(0, 0)", 0)
            .bad("bind(0, 99999)", "bind(0, 100000)");
        Edge.of("16 bind: at minute 0").run("book(5, 0, false)").bad("bind(0, 0)", "bind(0, -1)").is("bind(0, 1)", 1);
        Edge.ofKinds("16 bind: STATE: not there").state("bind(1, 99)", "bind(2, 99)", "bind(3, 99)", "bind(4, 99)")
            .state("bind(5, 99)", "bind(6, 99)").is("bind(0, 99)", 1).state("bind(0, 100)").is("mark(0, 3)", 99);
        Edge.ofKinds("16 bind: BAD ahead of STATE")
            .bad("bind(1, 6)", "bind(3, 100000)", "bind(6, MAX)", "bind(4, MIN)");
    }

    private static void lose() {
        Edge.of("17 lose: BAD").bad("lose(0)").run("book(5, 0, false)")
            .bad("lose(-1)", "lose(1)", "lose(MIN)", "lose(MAX)");
        Edge x = Edge.ofKinds("17 lose: STATE");
        x.state("lose(3)", "lose(5)", "lose(6)").is("lose(0)", 1).is("lose(1)", 1).is("lose(2)", 1).is("lose(4)", 1);
        x.state("lose(0)", "lose(1)", "lose(2)", "lose(4)").is("has(1)", 0).is("has(2)", 0).is("mark(0, 6)", 6);
        Edge.of("17 lose: since the first and the last minute").run("book(5, 0, false)", "book(6, 0, false)")
            .is("lose(0)", 1).is("mark(0, 6)", 0).run("later(99999)").is("lose(1)", 1).is("mark(1, 6)", 99999)
            .is("mark(0, 6)", 0);
        Edge.ofKinds("17 lose: one KEPT is LOST beyond its DAY").run("lose(2)", "later(9999)").tells("told(2, 0)", 6);
    }

    private static void find() {
        Edge.of("18 find: BAD").bad("find(0)").run("book(5, 0, false)", "lose(0)").within("find(#)", 0, 0);
        Edge x = Edge.ofKinds("18 find: STATE: not LOST");
        x.state("find(0)", "find(1)", "find(2)", "find(3)", "find(4)", "find(5)").is("find(6)", 0).state("find(6)");
        Edge.of("18 find: how many minutes it was LOST").run("book(5, 0, false)", "lose(0)").is("find(0)", 0)
            .run("lose(0)", "later(1)").is("find(0)", 1).run("lose(0)", "later(99998)").is("find(0)", 99998);
        Edge.of("18 find: LOST in all minutes").run("book(5, 3, false)", "lose(0)", "later(99999)").is("find(0)", 99999)
            .tells("told(0, 0)", 0).tells("told(0, 2)", 3).tells("told(0, 4)", 0);
    }

    private static void had() {

            Edge x = Edge.of("Terms 1 HAD: till it is given back, is LOST, or is KEPT no more");
        x.run("book(1, 0, false)", "book(2, 1, false)", "book(3, 0, false)").asks(0, 1).asks(1, 2).asks(2, 3);
        x.run("text(2, 0)", "send(0, 0)", "send(1, 1)", "send(2, 2)", "later(4)").is("count(6)", 3);
        x.is("keep(2)", 3).run("later(10)", "back(0, 0)", "later(1)", "lose(1)", "later(9984)", "text(2, 0)")
            .is("count(6)", 3);
        x.digests("9999 3 3 0 0 0 3 0 0 1 | 0 1 0 0 0 0 | 6 2 1 0 1 15 | 0 3 0 0 0 0",
            "2 0 0 0 4 | 2 1 1 0 4 | 2 2 2 0 4 | 1 4 1 4 1 4 | 0 0 4 14 | 1 1 4 15 | 2 2 4 5760",
            "-1 -1 -1 -1 -1 -1 | -1 -1 0 -1");
        Edge y = Edge.of("Terms 1 HAD: as many as there can be SLIPS are all told").run("book(1, 0, false)")
            .write(2, "1");
        for (int s = 0; s < 24; s++) {
            y.run("slip(" + s % 8 + ", 2, 0)", "send(" + s % 3 + ", " + s + ")", "later(4)").is("count(6)", s + 1);
            y.run("back(0, 0)");
        }
        y.is("count(6)", 24);
    }
}
