/** The boundary cases of promises 24 to 36: SLIPS, FETCHERS, ROUNDS. */
final class SlipsEdges {
    private SlipsEdges() {
    }

    static void all() {
        slip();
        slipOrder();
        slipMarks();
        slipBytes();
        slipQ();
        slipQCounts();
        slipEyes();
        slipTurned();
        slipTold();
        paceAndFree();
        takes();
        send();
        sendAtTheEnd();
        sendNotThere();
        foretell();
        round();
        roundOf();
        roundOfAlike();
        judge();
        first();
        firstOfAlike();
        beside();
        crowd();
    }

    private static void slip() {
        Edge.of("24 slip: BAD: READER").run("book(1, 0, false)").write(0, "1").within("slip(#, 0, 0)", 0, 7);
        Edge.of("24 slip: BAD: TEXT").run("book(1, 0, false)").write(0, "1").write(3, "1")
            .within("slip(0, #, 0)", 0, 3);
        Edge x = Edge.of("24 slip: its number; FULL beyond 24").run("book(1, 0, false)").write(0, "1");
        for (int s = 0; s < 24; s++) {
            x.is("slip(" + s % 8 + ", 0, 0)", s);
        }
        x.full("slip(0, 0, 0)").is("count(2)", 24);
        Edge.of("24 slip: FULL also of SLIPS that are TURNED").run("book(1, 0, false)", "bind(0, 9)").write(0, "1")
            .times(24, "slip(0, 0, 0)").full("slip(1, 0, 0)");
        Edge.of("24 slip: NOTHING: the TEXT").run("book(1, 0, false)").nothing("slip(0, 0, 0)", "slip(7, 3, 0)");
        Edge.of("24 slip: BEYOND: i").run("book(1, 0, false)").write(0, "1 1")
            .within("slip(0, 0, #)", 0, 2, Refusal.BEYOND, Refusal.BEYOND);
        Edge.of("24 slip: BEYOND: an empty TEXT").run("book(1, 0, false)", "text(0, 0)")
            .beyond("slip(0, 0, 0)", "slip(0, 0, -1)");
        Edge.of("24 slip: UNLIKE: no figure there").run("book(1, 0, false)").write(0, " 1x")
            .unlike("slip(0, 0, 0)", "slip(0, 0, 2)").is("slip(0, 0, 1)", 0);
        Edge.of("24 slip: NOTHING: no BOOK has that MARK").run("book(1, 0, false)").write(0, "2 11 10")
            .nothing("slip(0, 0, 0)").nothing("slip(0, 0, 2)", "slip(0, 0, 5)", "slip(0, 0, 6)").is("slip(0, 0, 3)", 0);
        Edge.of("24 slip: NOTHING: in a room without BOOKS").write(0, "0").nothing("slip(0, 0, 0)");
    }

    private static void slipOrder() {
        Edge.of("24 slip: BAD ahead of NOTHING")
            .bad("slip(8, 0, 0)", "slip(-1, 0, -1)", "slip(0, 4, 0)", "slip(0, -1, 0)");
        Edge.of("24 slip: NOTHING ahead of BEYOND")
            .nothing("slip(0, 0, -1)", "slip(0, 0, 40)", "slip(0, 0, MAX)", "slip(0, 0, MIN)");
        Edge x = Edge.of("24 slip: BAD ahead of FULL, FULL ahead of all others").run("book(1, 0, false)", "bind(0, 9)")
            .write(0, "1x2");
        x.times(24, "slip(0, 0, 0)").bad("slip(8, 0, 0)", "slip(0, 4, 0)", "slip(-1, -1, 0)");
        x.full("slip(0, 1, 0)", "slip(0, 0, 3)", "slip(0, 0, 1)", "slip(0, 0, 2)").rules("Q0", 0).full("slip(0, 0, 0)");
        x.full("slip(0, 0, MAX)", "slip(0, 0, MIN)");
        Edge y = Edge.of("24 slip: STATE last").run("book(1, 0, true)").rules("Q0 E1", 0).write(0, "1x2")
            .bad("slip(8, 0, 0)");
        y.nothing("slip(0, 1, 0)").beyond("slip(0, 0, 3)", "slip(0, 0, -1)").unlike("slip(0, 0, 1)")
            .nothing("slip(0, 0, 2)");
        y.state("slip(0, 0, 0)");
    }

    private static void slipMarks() {
        Edge x = Edge.of("24 slip: one to four figures, as many as there are")
            .run("book(1234, 0, false)", "book(2345, 0, false)");
        x.run("book(345, 0, false)", "book(45, 0, false)", "book(5, 0, false)").write(0, "12345");
        for (int i = 0; i < 5; i++) {
            x.is("slip(0, 0, " + i + ")", i).tells("slipTold(" + i + ", 2)", i);
        }
        Edge.of("24 slip: figures up to a sign that is none").run("book(12, 0, false)", "book(3, 0, false)")
            .write(0, "12x3 12").is("slip(0, 0, 0)", 0).tells("slipTold(0, 2)", 0).is("slip(0, 0, 3)", 1)
            .tells("slipTold(1, 2)", 1).is("slip(0, 0, 5)", 2).tells("slipTold(2, 2)", 0);
        Edge.of("24 slip: MARK 0 and MARK 9999").run("book(0, 0, false)", "book(9999, 0, false)")
            .write(0, "0 00000 9999 99999").is("slip(0, 0, 0)", 0).is("slip(0, 0, 2)", 1).is("slip(0, 0, 6)", 2)
            .is("slip(0, 0, 8)", 3).is("slip(0, 0, 13)", 4).nothing("slip(0, 0, 15)").tells("slipTold(1, 2)", 0)
            .tells("slipTold(4, 2)", 1);
        Edge.of("24 slip: at the last places of 40")
            .run("book(12, 0, false)", "book(2, 0, false)", "text(0, 40)", "put(0, 38, 49)").run("put(0, 39, 50)")
            .unlike("slip(0, 0, 37)").is("slip(0, 0, 38)", 0).is("slip(0, 0, 39)", 1).beyond("slip(0, 0, 40)")
            .tells("slipTold(0, 2)", 0).tells("slipTold(1, 2)", 1);
    }

    private static void slipBytes() {
        for (int begin = -128; begin < 128; begin += 32) {
            Edge x = Edge.of("24 slip: UNLIKE: each byte that is no figure").rules("Q99", 0).run("text(0, 1)");
            for (int b = 0; b < 10; b++) {
                x.run("book(" + b + ", 0, false)");
            }
            for (int v = begin; v < begin + 32; v++) {
                x.run("put(0, 0, " + v + ")");
                if (v >= '0' && v <= '9') {
                    x.is("slip(0, 0, 0)", v - '0').tells("slipTold(" + (v - '0') + ", 2)", v - '0');
                } else {
                    x.unlike("slip(0, 0, 0)");
                }
            }
        }
    }

    private static void slipQ() {
        Edge.of("24 slip: STATE: Q 9, if none is told").run("book(1, 0, false)").write(0, "1").times(9, "slip(0, 0, 0)")
            .state("slip(0, 0, 0)").is("slip(1, 0, 0)", 9);
        Edge.of("24 slip: STATE: Q 0").run("book(1, 0, false)").rules("Q0", 0).write(0, "1")
            .state("slip(0, 0, 0)", "slip(7, 0, 0)");
        Edge.of("24 slip: STATE: Q 1").run("book(1, 0, false)").rules("Q1", 0).write(0, "1").is("slip(0, 0, 0)", 0)
            .state("slip(0, 0, 0)").is("slip(7, 0, 0)", 1).state("slip(7, 0, 0)");
        Edge.of("24 slip: Q 99: all 24 by one READER").run("book(1, 0, false)").rules("Q99", 0).write(0, "1")
            .times(24, "slip(0, 0, 0)").is("count(2)", 24).full("slip(0, 0, 0)");
        Edge.of("24 slip: Q for DAY of NOW").run("book(1, 0, false)").rules("Q0", 1).write(0, "1").run("later(1439)")
            .is("slip(0, 0, 0)", 0).run("later(1)").state("slip(1, 0, 0)");
        Edge.of("24 slip: Q as known on DAY of NOW").run("book(1, 0, false)").write(0, "1").is("slip(0, 0, 0)", 0)
            .rules("Q0", 0).state("slip(1, 0, 0)").rules("Q1", 0).is("slip(1, 0, 0)", 1);
    }

    private static void slipQCounts() {
        Edge x = Edge.of("24 slip: STATE: SLIPS that WAIT or GO and BOOKS that a READER HAS together");
        x.run("book(1, 0, false)", "book(2, 0, false)").rules("Q1 K0", 0).write(0, "1").write(1, "2");
        x.run("slip(0, 0, 0)").state("slip(0, 1, 0)").run("send(0, 0)").state("slip(0, 1, 0)").run("later(3)");
        x.state("slip(0, 1, 0)").run("later(1)").state("slip(0, 1, 0)").run("keep(0)").state("slip(0, 1, 0)");
        x.run("later(1435)").state("slip(0, 1, 0)").run("later(1)").is("slip(0, 1, 0)", 1).state("slip(0, 1, 0)");
        Edge.of("24 slip: one given back counts no more").run("book(1, 0, false)").rules("Q1", 0).asks(0, 1)
            .run("send(0, 0)", "later(4)").state("slip(0, 2, 0)").run("back(0, 5)").is("slip(0, 2, 0)", 1);
        Edge.of("24 slip: one LOST counts no more").run("book(1, 0, false)").rules("Q1", 0).asks(0, 1)
            .run("send(0, 0)", "later(4)").state("slip(0, 2, 0)").run("lose(0)").is("slip(0, 2, 0)", 1);
        Edge.of("24 slip: one TURNED counts not").run("book(1, 0, false)", "bind(0, 9)").rules("Q1", 0).asks(0, 1)
            .is("slip(0, 2, 0)", 1).is("slip(0, 2, 0)", 2);
        Edge.of("24 slip: one TURNED by a FETCHER counts not").run("book(1, 0, false)").rules("Q1", 0).asks(0, 1)
            .run("lose(0)").state("slip(0, 2, 0)").is("send(0, 0)", 0).is("slip(0, 2, 0)", 1);
        Edge.of("24 slip: STATE also for one that would be TURNED")
            .run("book(1, 0, false)", "book(2, 0, false)", "bind(1, 9)").rules("Q1", 0).asks(0, 1).write(0, "2")
            .state("slip(0, 0, 0)").is("slip(1, 0, 0)", 1);
    }

    private static void slipEyes() {
        Edge x = Edge.of("24 slip: STATE: a RARE one without an EYE NOW").run("book(1, 0, true)", "eye(5, 7)")
            .rules("E1", 0);
        x.write(0, "1").state("slip(0, 0, 0)").run("later(4)").state("slip(0, 0, 0)").run("later(1)")
            .is("slip(0, 0, 0)", 0);
        x.run("later(2)").is("slip(0, 0, 0)", 1).run("later(1)").state("slip(0, 0, 0)").run("eye(8, 8)")
            .is("slip(0, 0, 0)", 2);
        Edge.of("24 slip: E above 0").run("book(1, 0, true)").write(0, "1").is("slip(0, 0, 0)", 0).rules("E0", 0)
            .is("slip(0, 0, 0)", 1).rules("E99", 0).state("slip(0, 0, 0)").rules("E00", 0).is("slip(0, 0, 0)", 2);
        Edge.of("24 slip: one that is not RARE").run("book(1, 0, false)").rules("E1", 0).write(0, "1")
            .is("slip(0, 0, 0)", 0);
        Edge.of("24 slip: E for DAY of NOW").run("book(1, 0, true)").rules("E1", 1).write(0, "1").run("later(1439)")
            .is("slip(0, 0, 0)", 0).run("later(1)").state("slip(0, 0, 0)");
        Edge.of("24 slip: an EYE at the last minute").run("book(1, 0, true)", "eye(99999, 99999)").rules("E1", 0)
            .write(0, "1").run("later(99998)").state("slip(0, 0, 0)").run("later(1)").is("slip(0, 0, 0)", 0);
        Edge.of("24 slip: STATE also for one that would be TURNED").run("book(1, 0, true)", "bind(0, 9)").rules("E1", 0)
            .write(0, "1").state("slip(0, 0, 0)");
    }

    private static void slipTurned() {
        Edge x = Edge.ofKinds("24 slip: TURNED at once, if the BOOK is not BELIEVED to be on its SHELF");
        int[] how = {0, 3, 3, 3, 0, 3, 0};
        for (int b = 0; b <= 6; b++) {
            x.asks(7, b).tells("slipTold(" + (b + 4) + ", 0)", how[b]);
            x.tells("slipTold(" + (b + 4) + ", 4)", how[b] == 3 ? 6 : ReadersRoom.NONE);
        }
        Edge.ofKinds("24 slip: TURNED at once, if MISSING is BELIEVED").run("along(2)").asks(7, 4)
            .tells("slipTold(4, 0)", 3).asks(7, 6).tells("slipTold(5, 0)", 3).run("find(6)").asks(7, 6)
            .tells("slipTold(6, 0)", 0);
    }

    private static void slipTold() {
        Edge.of("25 slipTold: BAD without SLIPS")
            .bad("slipTold(0, 0)", "slipTold(-1, 0)", "slipTold(MAX, 4)", "slipTold(MIN, 4)");
        Edge.of("25 slipTold: BAD: SLIP").run("book(1, 0, false)").asks(0, 1).asks(0, 1).within("slipTold(#, 1)", 0, 1);
        Edge.of("25 slipTold: BAD: what").run("book(1, 0, false)").asks(0, 1).within("slipTold(0, #)", 0, 4);
        Edge.of("25 slipTold: NONE: neither DONE nor TURNED").run("book(1, 0, false)").asks(7, 1)
            .tells("slipTold(0, 4)", ReadersRoom.NONE).run("send(0, 0)").tells("slipTold(0, 4)", ReadersRoom.NONE)
            .run("later(3)").tells("slipTold(0, 4)", ReadersRoom.NONE).run("later(1)").tells("slipTold(0, 4)", 4)
            .run("later(9)").tells("slipTold(0, 4)", 4).tells("slipTold(0, 3)", 0).tells("slipTold(0, 1)", 7);
        Edge.of("25 slipTold: told at the last minute").run("book(1, 0, false)", "later(99999)").asks(0, 1)
            .tells("slipTold(0, 3)", 99999).tells("slipTold(0, 0)", 0);
        Edge.of("25 slipTold: TURNED at minute 0").run("book(1, 0, false)", "bind(0, 1)").asks(0, 1)
            .tells("slipTold(0, 4)", 0);
    }

    private static void paceAndFree() {
        Edge.of("26 pace: BAD: FETCHER").within("pace(#, 5)", 0, 2);
        Edge.of("26 pace: BAD: PACE").within("pace(0, #)", 1, 9);
        Edge.of("26 pace: what it was").is("pace(2, 9)", 1).bad("pace(2, 10)", "pace(2, 0)", "pace(3, 5)")
            .is("pace(2, 1)", 9).is("pace(2, 2)", 1).is("pace(0, 1)", 1).is("pace(1, 1)", 1);
        Edge.of("27 free: BAD").within("free(#)", 0, 2);
        Edge.of("27 free: from when on").is("free(0)", 0).run("book(1, 0, false)", "later(9)").is("free(0)", 0)
            .asks(0, 1).run("send(1, 0)").is("free(0)", 0).is("free(1)", 13).is("free(2)", 0).run("later(50)")
            .is("free(1)", 13);
    }

    private static void takes() {
        Edge.of("28 takes: BAD without SLIPS").bad("takes(0, 0)", "takes(2, -1)");
        Edge.of("28 takes: BAD: FETCHER").run("book(1, 0, false)").asks(0, 1).within("takes(#, 0)", 0, 2);
        Edge.of("28 takes: BAD: SLIP").run("book(1, 0, false)").asks(0, 1).asks(0, 1).within("takes(0, #)", 0, 1);
        Edge x = Edge.of("28 takes: the least and the greatest PACE on each FLOOR").run("pace(1, 9)");
        for (int shelf = 0; shelf < 8; shelf++) {
            x.run("book(" + shelf + ", " + shelf + ", false)").asks(shelf, shelf);
            x.is("takes(0, " + shelf + ")", 4 + 2 * (shelf / 2)).is("takes(1, " + shelf + ")", 4 + 18 * (shelf / 2));
        }
        Edge.ofKinds("28 takes: of SLIPS that are DONE and GO, of a BOOK on a WRONG SHELF").is("takes(0, 0)", 6)
            .is("takes(0, 2)", 6).is("takes(0, 3)", 6);
    }

    private static void send() {
        Edge.of("29 send: BAD: FETCHER").run("book(1, 0, false)").asks(0, 1).within("send(#, 0)", 0, 2);
        Edge.of("29 send: BAD: SLIP").run("book(1, 0, false)").asks(0, 1).asks(0, 1).within("send(0, #)", 0, 1);
        Edge.of("29 send: BAD without SLIPS").bad("send(0, 0)", "send(3, 0)");
        Edge.of("29 send: STATE: he is not FREE").run("book(1, 2, false)", "book(2, 0, false)").asks(0, 1).asks(0, 2)
            .run("send(0, 0)").state("send(0, 1)").run("later(5)").state("send(0, 1)").run("later(1)")
            .is("send(0, 1)", 1).is("free(0)", 10);
        Edge.ofKinds("29 send: STATE: it does not WAIT").state("send(1, 0)", "send(1, 1)", "send(1, 2)", "send(1, 3)")
            .asks(0, 1).state("send(1, 4)").asks(0, 0).is("send(1, 5)", 1).state("send(2, 5)");
        Edge.ofKinds("29 send: BAD ahead of STATE")
            .bad("send(3, 0)", "send(-1, 3)", "send(0, 4)", "send(0, -1)", "send(MAX, 0)")
            .bad("send(0, MIN)", "send(0, MAX)", "send(MIN, 0)");
    }

    private static void sendAtTheEnd() {
        Edge.of("29 send: STATE: FREE beyond 99999: the least way").run("book(1, 0, false)", "book(2, 1, false)")
            .asks(0, 1).asks(1, 2).run("later(99995)").is("send(0, 0)", 1).is("free(0)", 99999).run("later(1)")
            .state("send(1, 1)").run("later(3)").tells("told(0, 0)", 1).state("send(0, 1)");
        Edge.of("29 send: STATE: FREE beyond 99999: the longest way")
            .run("book(1, 7, false)", "book(2, 6, false)", "pace(0, 9)").run("pace(1, 9)").asks(0, 1).asks(1, 2)
            .run("later(99941)").is("send(0, 0)", 1).is("free(0)", 99999).run("later(1)").state("send(1, 1)")
            .run("pace(1, 8)").is("send(1, 1)", 1).is("free(1)", 99994);
        Edge.of("29 send: STATE: FREE beyond 99999, though the BOOK is not there").run("book(1, 0, false)").asks(0, 1)
            .run("lose(0)", "later(99996)").state("send(0, 0)").tells("told(0, 4)", 0).is("count(5)", 0);
        Edge.of("29 send: not there, FREE at 99999").run("book(1, 0, false)").asks(0, 1).run("lose(0)", "later(99995)")
            .is("send(0, 0)", 0).is("free(0)", 99999).tells("slipTold(0, 4)", 99995);
    }

    private static void sendNotThere() {
        Edge.of("29 send: 0: LOST, BELIEVED there: MISSING, a LOOK tells it absent").run("book(1, 2, false)").asks(0, 1)
            .run("lose(0)", "later(3)").is("send(0, 0)", 0).tells("told(0, 4)", 3).tells("told(0, 0)", 6)
            .is("look(0, 0, 0)", 3).is("look(0, 0, 1)", 0).is("free(0)", 9).tells("slipTold(0, 0)", 3)
            .tells("slipTold(0, 4)", 3);
        Edge.ofKinds("29 send: 0: on a WRONG SHELF, BELIEVED there").asks(7, 4).is("send(1, 4)", 0)
            .tells("told(4, 4)", 3).tells("told(4, 0)", 4).is("count(5)", 1).is("look(4, 0, 1)", 0);
        Edge.of("29 send: 0: not BELIEVED there: no LOOK").run("book(1, 0, false)").asks(0, 1).asks(1, 1).asks(2, 1)
            .is("send(0, 0)", 1).is("send(1, 1)", 0).tells("told(0, 4)", 1).is("count(5)", 0)
            .run("later(4)", "back(0, 0)").run("bind(0, 99)").is("send(1, 2)", 0).tells("told(0, 4)", 2)
            .is("count(5)", 0).tells("slipTold(2, 0)", 3);
        Edge.of("29 send: 0: MISSING already: no second LOOK").run("book(1, 0, false)").asks(0, 1).asks(1, 1)
            .run("lose(0)", "send(0, 0)").is("send(1, 1)", 0).is("count(5)", 1).tells("told(0, 4)", 3);
        Edge x = Edge.of("29 send: 0: the last LOOK of 40 is told, the next is not, MISSING is BELIEVED")
            .run("book(1, 0, false)");
        x.run("book(2, 7, false)").asks(0, 1).asks(1, 1).run("lose(0)").times(39, "along(7)").is("count(5)", 39);
        x.is("send(0, 0)", 0).is("count(5)", 40).is("look(0, 0, 1)", 0).run("find(0)", "lose(0)").is("send(1, 1)", 0);
        x.is("count(5)", 40).none("look(0, 1, 1)").tells("told(0, 4)", 3);
    }

    private static void foretell() {
        Edge.of("30 foretell: BAD without SLIPS").bad("foretell(0)", "foretell(-1)");
        Edge.of("30 foretell: BAD").run("book(1, 0, false)").asks(0, 1).asks(0, 1).within("foretell(#)", 0, 1);
        Edge.ofKinds("30 foretell: STATE: it does not WAIT").state("foretell(0)", "foretell(1)", "foretell(3)")
            .bad("foretell(4)").asks(7, 1).state("foretell(4)").asks(7, 0).is("foretell(5)", 6);
        Edge x = Edge.of("30 foretell: all that WAIT, 24").run("book(1, 0, false)").write(0, "1").rules("Q99", 0);
        x.times(24, "slip(0, 0, 0)").is("foretell(0)", 4).is("foretell(2)", 4).is("foretell(3)", 8)
            .is("foretell(23)", 32);
        Edge y = Edge.of("30 foretell: from when he is FREE, or NOW, on").run("book(1, 0, false)", "book(2, 0, false)")
            .asks(0, 1);
        y.asks(0, 2).asks(0, 2).asks(0, 2).run("send(0, 0)").is("foretell(1)", 4).is("foretell(2)", 4)
            .is("foretell(3)", 8);
        y.run("later(3)").is("foretell(1)", 4).is("foretell(3)", 5).run("later(1)").is("foretell(3)", 4)
            .run("later(1)");
        y.is("foretell(3)", 4);
        Edge.of("30 foretell: beyond the last minute")
            .run("book(1, 7, false)", "pace(0, 9)", "pace(1, 9)", "pace(2, 9)").asks(0, 1).run("later(99999)")
            .is("foretell(0)", 58);
        Edge.of("30 foretell: the least of alike ones").run("book(1, 2, false)", "book(2, 0, false)", "pace(0, 2)")
            .asks(0, 2).asks(0, 2).asks(0, 1).asks(0, 1).is("foretell(0)", 4).is("foretell(1)", 4).is("foretell(2)", 6)
            .is("foretell(3)", 10);
    }

    private static void round() {
        Edge.of("31 round: none: 0").is("round()", 0).run("book(1, 0, false)").is("round()", 0).asks(0, 1)
            .run("send(0, 0)").is("round()", 0).run("later(4)").is("round()", 0);
        Edge x = Edge.of("31 round: SPENT: more than 6 WAIT").run("book(1, 0, false)").write(0, "1");
        int[] sums = {4, 8, 12, 20, 28, 36};
        for (int s = 0; s < 6; s++) {
            x.run("slip(0, 0, 0)").is("round()", sums[s]);
        }
        x.run("slip(0, 0, 0)").spent("round()").run("lose(0)", "send(0, 6)").is("round()", 44);
        Edge.of("31 round: SPENT: all 24 WAIT").run("book(1, 0, false)").rules("Q99", 0).write(0, "1")
            .times(24, "slip(0, 0, 0)").spent("round()");
        Edge.of("31 round: the greatest").run("book(1, 7, false)", "pace(0, 9)", "pace(1, 9)", "pace(2, 9)")
            .write(0, "1").times(6, "slip(0, 0, 0)").is("round()", 3 * (58 + 116)).run("later(99999)")
            .is("round()", 3 * (58 + 116));
    }

    private static void roundOf() {
        Edge.of("32 roundOf: BAD without SLIPS").bad("roundOf(0)", "roundOf(-1)");
        Edge.of("32 roundOf: BAD").run("book(1, 0, false)").asks(0, 1).asks(0, 1).within("roundOf(#)", 0, 1);
        Edge.ofKinds("32 roundOf: NONE: it does not WAIT").none("roundOf(0)", "roundOf(1)", "roundOf(3)").asks(7, 1)
            .none("roundOf(4)").asks(7, 0).is("roundOf(5)", 1);
        Edge x = Edge.of("32 roundOf: six of alike ones: the first by FETCHERS of SLIPS").run("book(1, 0, false)")
            .write(0, "1");
        x.times(6, "slip(0, 0, 0)");
        int[] fetchers = {0, 0, 1, 1, 2, 2};
        for (int s = 0; s < 6; s++) {
            x.is("roundOf(" + s + ")", fetchers[s]);
        }
        x.bad("roundOf(6)").run("slip(1, 0, 0)").spent("roundOf(0)", "roundOf(6)");
        Edge y = Edge.of("32 roundOf: BAD ahead of SPENT, SPENT ahead of NONE")
            .run("book(1, 0, false)", "book(2, 0, false)").write(0, "1");
        y.asks(1, 2).run("send(0, 0)").times(7, "slip(0, 0, 0)")
            .bad("roundOf(8)", "roundOf(-1)", "roundOf(MAX)", "roundOf(MIN)");
        y.spent("roundOf(7)", "roundOf(1)", "roundOf(0)");
    }

    private static void roundOfAlike() {
        Edge.of("32 roundOf: of alike SUMS the first by SLIPS' numbers, not by the shortest").run("book(1, 6, false)")
            .run("book(2, 0, false)").asks(0, 1).asks(0, 2).is("round()", 14).is("roundOf(0)", 0).is("roundOf(1)", 1);
        Edge.of("32 roundOf: the least SUM, though another one is first").run("book(1, 6, false)", "book(2, 0, false)")
            .run("pace(0, 2)").asks(0, 1).asks(0, 2).is("round()", 14).is("roundOf(0)", 1).is("roundOf(1)", 0);
        Edge.of("33 judge: the shortest first, whatever their numbers").lay(0, 2, 2, 2, 2)
            .run("book(1, 4, false)", "book(2, 6, false)", "book(3, 0, false)", "book(4, 3, false)")
            .asks(0, 1).asks(0, 2).asks(0, 3).asks(0, 4).is("judge(0)", 4 + 10 + 18 + 28)
            .run("pace(2, 9)").is("judge(0)", 4 + 26 + 66 + 124);
    }

    private static void judge() {
        Edge.of("33 judge: BAD; none WAIT").run("row(0, 0)", "row(5, 0)").within("judge(#)", 0, 5).is("judge(0)", 0);
        Edge.of("33 judge: NOTHING").nothing("judge(0)", "judge(5)").run("book(1, 0, false)").asks(0, 1)
            .nothing("judge(0)");
        Edge.of("33 judge: SIZE: not as many").run("book(1, 0, false)", "row(0, 1)").size("judge(0)").asks(0, 1)
            .is("judge(0)", 4).run("row(0, 0)").size("judge(0)").run("row(0, 2)").size("judge(0)").run("row(0, 40)")
            .size("judge(0)").asks(0, 1).run("row(0, 2)").is("judge(0)", 12).run("send(0, 0)").size("judge(0)");
        for (int place = 0; place < 3; place++) {
            Edge.of("33 judge: UNLIKE: one that is none").run("book(1, 0, false)", "row(0, 3)").asks(0, 1).asks(0, 1)
                .asks(0, 1).run("lay(0, " + place + ", -1)").unlike("judge(0)").run("lay(0, " + place + ", 3)")
                .unlike("judge(0)").run("lay(0, " + place + ", MIN)").unlike("judge(0)")
                .run("lay(0, " + place + ", MAX)").unlike("judge(0)").run("lay(0, " + place + ", 2)").is("judge(0)", 16)
                .run("lay(0, " + place + ", 0)").is("judge(0)", 24);
        }
        Edge.of("33 judge: SIZE ahead of UNLIKE").run("book(1, 0, false)").asks(0, 1).lay(0, 3, 3).size("judge(0)")
            .lay(0, 3).unlike("judge(0)");
        Edge x = Edge.of("33 judge: more than 6, all 24").run("book(1, 0, false)", "row(0, 24)").rules("Q99", 0)
            .write(0, "1");
        x.times(24, "slip(0, 0, 0)").is("judge(0)", 4 * 300).run("row(0, 23)").size("judge(0)").run("row(0, 25)")
            .size("judge(0)");
        Edge.of("33 judge: from when he is FREE, or NOW, on").run("book(1, 0, false)", "book(2, 0, false)").asks(0, 1)
            .asks(0, 2).run("send(0, 0)").lay(0, 0).is("judge(0)", 8).run("later(3)").is("judge(0)", 5).run("later(1)")
            .is("judge(0)", 4).run("later(1)").is("judge(0)", 4);
    }

    private static void first() {
        Edge.of("34 first: BAD").bad("first(0)").run("book(1, 0, false)", "book(2, 0, false)").within("first(#)", 0, 1);
        Edge.of("34 first: NONE: no SLIP WAITS for it").run("book(1, 0, false)", "book(2, 0, false)").none("first(0)")
            .asks(0, 1).is("first(0)", 0).none("first(1)").run("send(0, 0)").none("first(0)").run("later(4)")
            .none("first(0)").asks(0, 1).none("first(0)").run("back(0, 0)").none("first(0)").asks(0, 1)
            .is("first(0)", 2);
        Edge x = Edge.of("34 first: W 0, 1, 2, above 2 as 2").run("book(1, 0, false)", "book(2, 0, false)").asks(7, 2);
        x.run("send(0, 0)", "later(4)").asks(7, 1).asks(5, 1).asks(3, 1).is("first(0)", 1).rules("W1", 0)
            .is("first(0)", 2);
        x.rules("W2", 0).is("first(0)", 3).rules("W3", 0).is("first(0)", 3).rules("W99", 0).is("first(0)", 3)
            .rules("W0", 0);
        x.is("first(0)", 1).rules("W2", 1).run("later(1435)").is("first(0)", 1).run("later(1)").is("first(0)", 3);
    }

    private static void firstOfAlike() {
        Edge.of("34 first: of alike ones the least, W 1").run("book(1, 0, false)").rules("W1", 0).asks(7, 1).asks(5, 1)
            .asks(7, 1).is("first(0)", 0);
        Edge.of("34 first: of alike ones the least, W 2").run("book(1, 0, false)").rules("W2", 0).asks(7, 1).asks(5, 1)
            .asks(5, 1).is("first(0)", 1).asks(0, 1).asks(0, 1).is("first(0)", 3);
        Edge.of("34 first: the last of 24").run("book(1, 0, false)").rules("Q99W2", 0).write(0, "1")
            .times(23, "slip(1, 0, 0)").is("first(0)", 0).run("slip(0, 0, 0)").is("first(0)", 23);
    }

    private static void beside() {
        Edge.of("35 beside: BAD").within("beside(#)", 0, 99);
        Edge.of("35 beside: no SLIPS").is("beside(0)", 0).is("beside(99)", 0);
        Edge x = Edge.of("35 beside: how many would have been refused").run("book(1, 0, false)").write(0, "1");
        x.times(9, "slip(0, 0, 0)");
        for (int q = 0; q <= 9; q++) {
            x.is("beside(" + q + ")", 9 - q);
        }
        x.state("slip(0, 0, 0)").is("beside(0)", 9).is("beside(99)", 0).run("slip(1, 0, 0)").is("beside(0)", 10)
            .is("beside(1)", 8);
        Edge.of("35 beside: by what there was then").run("book(1, 0, false)", "book(2, 0, false)").asks(0, 1).asks(0, 2)
            .is("beside(1)", 1).run("send(0, 0)", "send(1, 1)", "later(4)", "back(0, 0)", "lose(1)").is("beside(1)", 1)
            .is("beside(2)", 0).asks(0, 1).is("beside(1)", 1).is("beside(0)", 3);
        Edge.of("35 beside: all 24 by one READER").run("book(1, 0, false)").rules("Q99", 0).write(0, "1")
            .times(24, "slip(0, 0, 0)").is("beside(0)", 24).is("beside(23)", 1).is("beside(24)", 0).is("beside(99)", 0);
        Edge.of("35 beside: one TURNED at once").run("book(1, 0, false)", "bind(0, 9)").asks(0, 1).asks(0, 1)
            .is("beside(0)", 2).is("beside(1)", 0);
    }

    private static void crowd() {
        Edge.of("36 crowd: BAD").within("crowd(#)", 0, 69);
        Edge x = Edge.of("36 crowd: on a DAY: its first minute and its last one").run("book(1, 0, false)")
            .write(0, "1");
        x.run("slip(0, 0, 0)", "later(1439)", "slip(1, 0, 0)", "later(1)", "slip(2, 0, 0)", "later(1439)",
            "slip(3, 0, 0)");
        x.run("slip(2, 0, 0)", "later(1)", "slip(0, 0, 0)").is("crowd(0)", 2).is("crowd(1)", 2).is("crowd(2)", 1)
            .is("crowd(3)", 0);
        Edge.of("36 crowd: on the last DAY").run("book(1, 0, false)", "later(99359)").asks(0, 1).run("later(1)")
            .asks(1, 1).asks(2, 1).run("later(639)").asks(3, 1).is("crowd(68)", 1).is("crowd(69)", 3);
        Edge y = Edge.of("36 crowd: all READERS, each once").run("book(1, 0, false)").write(0, "1");
        for (int reader = 0; reader < 8; reader++) {
            y.run("slip(" + reader + ", 0, 0)", "slip(" + reader + ", 0, 0)").is("crowd(0)", reader + 1);
        }
        Edge.of("36 crowd: SLIPS that are TURNED, not those that are refused").run("book(1, 0, false)", "bind(0, 9)")
            .asks(0, 1).rules("Q0", 0).state("slip(1, 2, 0)").is("crowd(0)", 1);
    }
}
