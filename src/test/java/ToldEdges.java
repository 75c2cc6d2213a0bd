/** The boundary cases of promises 51 to 57, and of what the "Terms" say for all calls. */
final class ToldEdges {
    private ToldEdges() {
    }

    static void all() {
        asked();
        fraction();
        count();
        finding();
        findings();
        digestOfNothing();
        digestOfEnds();
        digestOfPlaces();
        digestWraps();
        lastCalls();
    }

    private static void asked() {
        Edge.of("51 asked: 0 before").is("asked()", 0)
            .bad("told(0, 0)", "slipTold(0, 0)", "along(8)", "mean(6)", "lay(6, 0, 0)")
            .nothing("lay(0, 0, 5)", "mean(0)").is("asked()", 0);
        Edge x = Edge.of("51 asked: the latest that was not refused").run("book(7, 3, true)").lay(0, 4, 6)
            .lay(1, 2, 2, 2, 2, 2, 2, 2, 2).asks(5, 7);
        x.tells("told(0, 1)", 7).bad("told(0, 5)").is("asked()", 7).tells("mean(0)", 5).run("row(2, 0)")
            .nought("mean(2)").is("asked()", 5);
        x.tells("lay(0, 1, 9)", 6).beyond("lay(0, 2, 9)").is("asked()", 6).tells("slipTold(0, 1)", 5)
            .bad("slipTold(1, 1)").is("asked()", 5);
        x.is("search(0, 1, 480)", 4).is("asked()", 1).size("search(0, 0, 480)").bad("search(0, 1, 481)")
            .is("asked()", 1);
        x.is("along(3)", 0).is("asked()", 0).tells("told(0, 2)", 3).bad("along(-1)").none("gone(0)").is("asked()", 3);
        x.run("later(8)", "along(3)", "lose(0)", "along(3)").is("asked()", 1).is("gone(0)", 0).is("asked()", 8)
            .bad("gone(1)").is("asked()", 8);
        Edge y = Edge.of("51 asked: by no other call").run("book(7, 3, true)").lay(0, 4, 6).tells("told(0, 1)", 7);
        y.is("count(1)", 1).is("likely(0, 2)", 1).is("copy(0, 0, 0, 1, 1)", 1).is("put(0, 0, 1)", -3)
            .is("text(0, 1)", 1).is("put(0, 0, 1)", 1032);
        y.is("force(0, 0, 0)", 9).is("eye(3, 3)", 1).is("eyes(3)", 1).is("round()", 0).is("has(0)", 0)
            .is("bind(0, 5)", 1).is("mark(0, 3)", 5);
        y.is("later(5)", 5).is("lose(0)", 1).is("find(0)", 0).is("hands(0)", -9).is("wrong()", -3)
            .digests("5 1 0 0 0 0 0 1 1 1 | 0 7 3 1 0 0 | 1 0 1 0 1 0 | 3 3 | 2 4 4 -1 -1 -1 -1 -1 | 1 1 -1 -1 -1")
            .is("asked()", 7);
    }

    private static void fraction() {
        Edge.of("52 upper: 0 before").is("upper()", 0).nought("wrong()").is("upper()", 0);
        Edge.of("53 lower: 1 before").is("lower()", 1).nought("wrong()").is("lower()", 1);
        Edge x = Edge.of("52 upper: of the fraction that was told last").run("book(1, 0, false)", "book(2, 5, false)")
            .asks(0, 1);
        x.run("send(0, 0)", "later(4)", "back(0, 5)", "along(5)").is("upper()", 0).is("wrong()", 2).is("upper()", 1)
            .is("lower()", 1);
        x.run("along(5)").is("upper()", 1).is("lower()", 1).is("wrong()", 3).is("upper()", 2).is("lower()", 3);
        x.lay(0, 5, 6).tells("mean(0)", 5).is("upper()", 2).is("lower()", 3);
    }

    private static void count() {
        Edge.of("54 count: BAD").within("count(#)", 0, 9);
        Edge x = Edge.of("54 count: ROWS, TEXTS that are there");
        for (int r = 0; r < 6; r++) {
            x.run("row(" + r + ", 0)").is("count(8)", r + 1);
        }
        for (int t = 0; t < 4; t++) {
            x.run("text(" + t + ", 0)").is("count(9)", t + 1);
        }
        x.run("row(0, 5)", "text(0, 5)").is("count(8)", 6).is("count(9)", 4).run("tear(0)", "tear(5)")
            .is("count(8)", 4);
        Edge.of("54 count: NOW").is("count(0)", 0).run("later(99999)").is("count(0)", 99999).bad("later(1)")
            .is("count(0)", 99999);
        Edge y = Edge.of("54 count: what is refused counts not").run("text(0, 1)")
            .bad("book(-1, 0, false)", "eye(1, 0)", "line(3, 0, 0, 0, NONE)");
        y.nothing("rule(1, 0)").unlike("slip(0, 0, 0)");
        for (int what = 1; what <= 8; what++) {
            y.is("count(" + what + ")", 0);
        }
    }

    private static void finding() {
        Edge.of("55 finding: 0 before any").is("finding()", 0).bad("told(0, 0)", "row(9, 9)").run("book(1, 0, false)")
            .state("keep(0)", "find(0)").none("first(0)", "moved(0)").is("finding()", 0);
        Edge x = Edge.of("55 finding: the latest").run("book(1, 0, false)", "row(0, 0)").nothing("tear(1)")
            .is("finding()", 1).beyond("lay(0, 0, 0)");
        x.is("finding()", 2).unlike("mark(0, 1)").is("finding()", 3).nought("mean(0)").is("finding()", 4)
            .size("row(0, -1)").is("finding()", 5);
        x.nothing("tear(1)").is("finding()", 1).bad("tear(6)").state("keep(0)").run("later(1)").is("finding()", 1);
    }

    private static void findings() {
        Edge.of("56 findings: BAD").within("findings(#)", 1, 5);
        Edge x = Edge.of("56 findings: how often").run("book(1, 0, false)", "row(0, 0)");
        for (int f = 1; f <= 5; f++) {
            x.is("findings(" + f + ")", 0);
        }
        String[] calls = {"", "tear(1)", "lay(0, 0, 0)", "mark(0, 1)", "mean(0)", "row(0, -1)"};
        for (int f = 1; f <= 5; f++) {
            for (int k = 1; k <= f; k++) {
                x.is(calls[f], ReadersRoom.FINDING).is("findings(" + f + ")", k);
            }
        }
        x.bad("findings(0)", "findings(6)", "told(1, 0)").is("findings(1)", 1).is("findings(5)", 5);
    }

    private static void digestOfNothing() {
        String fetchers = "| 1 0 1 0 1 0 |";
        Edge.of("57 digest: of a new object")
            .digests("0 0 0 0 0 0 0 0 0 0", fetchers, "-1 -1 -1 -1 -1 -1 | -1 -1 -1 -1");
        Edge.of("57 digest: an empty ROW is not a missing one").run("row(0, 0)")
            .digests("0 0 0 0 0 0 0 0 1 0", fetchers, "0 -1 -1 -1 -1 -1 | -1 -1 -1 -1");
        Edge.of("57 digest: an empty TEXT is not a missing one").run("text(3, 0)")
            .digests("0 0 0 0 0 0 0 0 0 1", fetchers, "-1 -1 -1 -1 -1 -1 | -1 -1 -1 0");
        Edge.of("57 digest: a torn ROW is a missing one").lay(0, 5, 6).run("tear(0)")
            .digests("0 0 0 0 0 0 0 0 0 0", fetchers, "-1 -1 -1 -1 -1 -1 | -1 -1 -1 -1");
    }

    private static void digestOfEnds() {
        Edge.of("57 digest: the LINE over which one is pasted (NONE)")
            .run("line(0, 0, 9999, -9999, NONE)", "line(2, 5, 6, 9999, 0)")
            .digests("0 0 0 0 2 0 0 0 0 0 | 1 0 1 0 1 0 | 0 0 9999 -9999 -9 | 2 5 6 9999 0",
                "-1 -1 -1 -1 -1 -1 | -1 -1 -1 -1");
        Edge.of("57 digest: the DAY on which RULES were told, from").run("text(0, 0)", "later(99999)", "rule(0, 69)")
            .digests("99999 0 0 1 0 0 0 0 0 1 | 1 0 1 0 1 0 | 69 69 | -1 -1 -1 -1 -1 -1 | 0 -1 -1 -1");
        Edge.of("57 digest: bytes below 0").run("text(0, 2)", "put(0, 0, 128)", "put(0, 1, 255)")
            .digests("0 0 0 0 0 0 0 0 0 1 | 1 0 1 0 1 0 | -1 -1 -1 -1 -1 -1 | 2 -128 -1 -1 -1 -1");
    }

    private static void digestOfPlaces() {
        Edge.of("57 digest: what mark() tells by the PLACE's own KIND: KEPT the DAY").run("book(0, 0, true)")
            .asks(6, 0).rules("K99", 0).run("text(3, 0)", "text(2, 0)", "send(0, 0)", "later(4)", "keep(0)")
            .run("eye(0, 99999)")
            .digests("4 1 1 1 0 0 1 1 0 2 | 2 0 0 1 1 99 | 2 6 0 0 4 | 1 4 1 0 1 0 | 0 0 | 0 6 4 -9 | 0 99999",
                "-1 -1 -1 -1 -1 -1 | -1 -1 0 0");
        Edge.of("57 digest: of each LOOK BOOK, minute, present")
            .run("book(5, 7, false)", "book(6, 7, false)", "later(3)", "lose(0)", "along(7)", "later(1)", "along(7)")
            .digests("4 2 0 0 0 3 0 0 0 0 | 6 5 7 0 3 3 | 0 6 7 0 0 0 | 1 0 1 0 1 0 | 0 3 0 | 1 3 1 | 1 4 1",
                "-1 -1 -1 -1 -1 -1 | -1 -1 -1 -1");
    }

    private static void digestWraps() {
        StringBuilder ends = new StringBuilder();
        Edge x = Edge.of("57 digest: h beyond the ends of long, places at the ends of int")
            .run("row(0, 40)", "row(5, 40)");
        for (int i = 0; i < 40; i++) {
            int end = i % 2 == 0 ? Integer.MIN_VALUE : Integer.MAX_VALUE;
            x.run("lay(0, " + i + ", " + end + ")", "lay(5, " + i + ", " + end + ")");
            ends.append(' ').append(end);
        }
        x.digests("0 0 0 0 0 0 0 0 2 0 | 1 0 1 0 1 0 | 40", ends + " | -1 -1 -1 -1 | 40", ends + " | -1 -1 -1 -1");
    }

    private static void lastCalls() {
        Edge x = Edge.of("Terms an object is used for at most 512 calls: the last one")
            .run("book(1, 0, false)", "row(0, 1)");
        x.times(254, "later(1)").times(254, "lay(0, 0, 7)");
        x.tells("mean(0)", 7);
        Edge y = Edge.of("Terms an object is used for at most 512 calls: as many LOOKS, all seen")
            .run("book(1, 0, false)").times(510, "along(0)");
        y.is("wrong()", 510);
        Edge z = Edge.of("Terms an object is used for at most 512 calls: as many FINDINGS").run("later(0)");
        for (int k = 0; k < 510; k++) {
            z.is("tear(0)", ReadersRoom.FINDING);
        }
        z.is("findings(1)", 510);
    }
}
