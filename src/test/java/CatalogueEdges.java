/** The boundary cases of promises 37 to 39: LINES of the catalogue and MARKS of other AGES. */
final class CatalogueEdges {
    private CatalogueEdges() {
    }

    static void all() {
        line();
        lineOver();
        lineOrder();
        todayBounds();
        todayEnds();
        todayShifted();
        todayKnown();
        todayAges();
        turned();
        mostMarks();
    }

    private static void line() {
        Edge.of("37 line: BAD: AGE").within("line(#, 0, 9, 0, NONE)", 0, 2);
        Edge.of("37 line: BAD: from, till below from").within("line(0, #, 9, 0, NONE)", 0, 9);
        Edge.of("37 line: BAD: from, at the end").within("line(0, #, 9999, 0, NONE)", 0, 9999);
        Edge.of("37 line: BAD: till").within("line(0, 5, #, 0, NONE)", 5, 9999);
        Edge.of("37 line: BAD: both are no MARKS").bad("line(0, -2, -1, 0, NONE)", "line(0, 10000, 10001, 0, NONE)")
            .bad("line(0, MIN, MAX, 0, NONE)", "line(0, MAX, MIN, 0, NONE)", "line(0, MIN, MIN, 0, NONE)",
            "line(0, MAX, MAX, 0, NONE)");
        Edge.of("37 line: BAD: SHIFT beyond 9999 or below -9999").within("line(0, 0, 9, #, NONE)", -9999, 9999);
        Edge x = Edge.of("37 line: its number; FULL beyond 20");
        for (int l = 0; l < 20; l++) {
            x.is("line(" + l % 3 + ", 0, 9999, 0, NONE)", l);
        }
        x.full("line(0, 0, 9, 0, NONE)").is("count(4)", 20);
    }

    private static void lineOver() {
        Edge.of("37 line: BAD: a LINE that there is not").bad("line(0, 0, 9, 0, 0)")
            .run("line(0, 0, 9, 0, NONE)", "line(0, 0, 9, 0, NONE)").within("line(0, 0, 9, 0, #)", 0, 1)
            .bad("line(0, 0, 9, 0, -8)", "line(0, 0, 9, 0, -10)", "line(0, 0, 9, 0, 20)");
        Edge.of("37 line: STATE: that one is pasted over").run("line(0, 0, 9, 0, NONE)").is("line(0, 0, 9, 1, 0)", 1)
            .state("line(0, 0, 9, 2, 0)").is("line(0, 0, 9, 3, 1)", 2)
            .state("line(0, 0, 9, 4, 1)", "line(0, 0, 9, 4, 0)").is("line(0, 0, 9, 5, 2)", 3);
        Edge.of("37 line: STATE: pasted over at an earlier minute")
            .run("line(0, 0, 9, 0, NONE)", "later(5)", "line(0, 0, 9, 0, 0)").run("later(5)")
            .state("line(0, 0, 9, 0, 0)");
        Edge x = Edge.of("37 line: over the last one that there is room for").times(19, "line(2, 0, 9, 1, NONE)")
            .is("today(2, 0, 0)", 1);
        x.is("line(1, 0, 9, 1, 18)", 19).full("line(1, 0, 9, 1, 19)", "line(1, 0, 9, 1, 18)")
            .bad("line(1, 0, 9, 1, 20)");
    }

    private static void lineOrder() {
        Edge x = Edge.of("37 line: BAD ahead of FULL and STATE, FULL ahead of STATE")
            .run("line(0, 0, 9, 0, NONE)", "line(0, 0, 9, 0, 0)");
        x.bad("line(3, 0, 9, 0, 0)", "line(0, 9, 8, 0, 0)", "line(0, 0, 9, 10000, 0)", "line(0, 0, 10000, 0, 0)");
        x.times(18, "line(0, 0, 9, 0, NONE)").full("line(0, 0, 9, 0, 0)", "line(0, 0, 9, 0, 5)");
        x.bad("line(3, 0, 9, 0, NONE)", "line(0, 9, 8, 0, NONE)", "line(0, 0, 9, -10000, NONE)", "line(0, 0, 9, 0, 20)",
            "line(0, 0, 9, 0, -1)");
    }

    private static void todayBounds() {
        Edge.of("38 today: BAD: AGE").within("today(#, 0, 0)", 0, 3);
        Edge.of("38 today: BAD: MARK").within("today(0, #, 0)", 0, 9999);
        Edge.of("38 today: BAD: minute at NOW 0").within("today(0, 0, #)", 0, 0);
        Edge.of("38 today: BAD: minute beyond NOW").run("later(10)").within("today(3, 0, #)", 0, 10);
        Edge.of("38 today: BAD: minute at the last one").run("later(99999)").within("today(3, 0, #)", 0, 99999);
        Edge.of("39 turned: BAD: AGE").within("turned(#, 0, 0, 0)", 0, 3);
        Edge.of("39 turned: BAD: MARK").within("turned(3, #, 0, 0)", 0, 9999);
        Edge.of("39 turned: BAD: minute beyond NOW").run("later(10)").within("turned(3, 0, #, 0)", 0, 10);
        Edge.of("39 turned: BAD ahead of NONE")
            .bad("turned(4, 0, 0, 5)", "turned(0, 10000, 0, -1)", "turned(0, 0, 1, MAX)")
            .bad("turned(-1, 0, 0, MIN)", "turned(MAX, MAX, MAX, MAX)", "turned(MIN, MIN, MIN, MIN)");
    }

    private static void todayEnds() {
        Edge.of("38 today: from .. till").run("line(2, 10, 20, 1, NONE)").is("today(2, 9, 0)", 0)
            .is("today(2, 10, 0)", 1).is("today(2, 20, 0)", 1).is("today(2, 21, 0)", 0).is("turned(2, 10, 0, 0)", 11)
            .is("turned(2, 20, 0, 0)", 21);
        Edge.of("38 today: one MARK alone").run("line(2, 10, 10, 0, NONE)").is("today(2, 9, 0)", 0)
            .is("today(2, 10, 0)", 1).is("today(2, 11, 0)", 0);
        Edge.of("38 today: all MARKS").run("line(2, 0, 9999, 0, NONE)").is("turned(2, 0, 0, 0)", 0)
            .is("turned(2, 9999, 0, 0)", 9999);
    }

    private static void todayShifted() {
        Edge.of("38 today: if that is 0 .. 9999: above").run("line(2, 0, 9999, 5, NONE)")
            .is("turned(2, 9994, 0, 0)", 9999).is("today(2, 9994, 0)", 1).is("today(2, 9995, 0)", 0)
            .none("turned(2, 9995, 0, 0)", "turned(2, 9999, 0, 0)");
        Edge.of("38 today: if that is 0 .. 9999: below").run("line(2, 0, 9999, -5, NONE)").is("turned(2, 5, 0, 0)", 0)
            .is("today(2, 5, 0)", 1).is("today(2, 4, 0)", 0).none("turned(2, 4, 0, 0)", "turned(2, 0, 0, 0)");
        Edge.of("38 today: the greatest SHIFT").run("line(2, 0, 9999, 9999, NONE)").is("turned(2, 0, 0, 0)", 9999)
            .is("today(2, 1, 0)", 0);
        Edge.of("38 today: the least SHIFT").run("line(2, 0, 9999, -9999, NONE)").is("turned(2, 9999, 0, 0)", 0)
            .is("today(2, 9998, 0)", 0);
        Edge.of("38 today: beyond in an AGE between").run("line(1, 0, 9999, 9, NONE)", "line(2, 0, 9999, -9, NONE)")
            .is("turned(1, 9990, 0, 0)", 9990).is("today(1, 9991, 0)", 0);
    }

    private static void todayKnown() {
        Edge x = Edge.of("38 today: LINES told by then, not pasted over by then")
            .run("later(5)", "line(2, 0, 9, 1, NONE)", "later(5)");
        x.run("line(2, 0, 9, 2, 0)", "later(5)").is("today(2, 0, 4)", 0).is("turned(2, 0, 5, 0)", 1)
            .is("turned(2, 0, 9, 0)", 1);
        x.is("today(2, 0, 9)", 1).is("turned(2, 0, 10, 0)", 2).is("today(2, 0, 10)", 1).is("turned(2, 0, 15, 0)", 2);
        Edge.of("38 today: told and pasted over at one minute").run("line(2, 0, 9, 1, NONE)", "line(2, 0, 9, 2, 0)")
            .is("today(2, 0, 0)", 1).is("turned(2, 0, 0, 0)", 2);
        Edge.of("38 today: pasted over by a LINE of another AGE and other MARKS")
            .run("line(2, 0, 9, 1, NONE)", "line(0, 50, 60, 1, 0)").is("today(2, 0, 0)", 0);
        Edge.of("38 today: one that was pasted over comes not again")
            .run("line(2, 0, 9, 1, NONE)", "line(2, 0, 9, 2, 0)").run("line(2, 0, 9, 3, 1)").is("today(2, 0, 0)", 1)
            .is("turned(2, 0, 0, 0)", 3);
        Edge.of("38 today: a LINE told at the last minute").run("later(99999)", "line(2, 0, 9, 1, NONE)")
            .is("today(2, 0, 99998)", 0).is("today(2, 0, 99999)", 1);
    }

    private static void todayAges() {
        Edge.of("38 today: a MARK of today").is("today(3, 0, 0)", 1).is("turned(3, 0, 0, 0)", 0)
            .is("turned(3, 9999, 0, 0)", 9999).none("turned(3, 9999, 0, 1)");
        Edge.of("38 today: one LINE for each AGE").run("line(2, 0, 9, 1, NONE)").is("today(2, 0, 0)", 1)
            .is("today(1, 0, 0)", 0).is("today(0, 0, 0)", 0).run("line(1, 0, 9, 1, NONE)").is("turned(1, 0, 0, 0)", 2)
            .is("today(0, 0, 0)", 0).run("line(0, 0, 9, 1, NONE)").is("turned(0, 0, 0, 0)", 3)
            .is("turned(0, 7, 0, 0)", 10).is("today(0, 8, 0)", 0);
        Edge.of("38 today: a LINE is not used two times").run("line(0, 0, 9, 1, NONE)", "line(0, 0, 9, 2, NONE)")
            .is("today(0, 0, 0)", 0);
        Edge.of("38 today: alike ones count once").run("line(2, 0, 9, 1, NONE)", "line(2, 0, 9, 1, NONE)")
            .is("today(2, 0, 0)", 1).none("turned(2, 0, 0, 1)");
    }

    private static void turned() {
        Edge x = Edge.of("39 turned: the i-th, the least first; NONE")
            .run("line(2, 0, 9, 7, NONE)", "line(2, 0, 9, 3, NONE)");
        x.run("line(2, 0, 9, 5, NONE)").is("turned(2, 0, 0, 0)", 3).is("turned(2, 0, 0, 1)", 5)
            .is("turned(2, 0, 0, 2)", 7);
        x.none("turned(2, 0, 0, 3)", "turned(2, 0, 0, -1)", "turned(2, 0, 0, MAX)", "turned(2, 0, 0, MIN)",
            "turned(2, 0, 0, 300)");
        Edge.of("39 turned: NONE: no LINES").none("turned(0, 0, 0, 0)", "turned(1, 5, 0, -1)", "turned(2, 9999, 0, 1)");
    }

    private static void mostMarks() {
        Edge x = Edge.of("38 today: the most MARKS that 20 LINES lead to");
        for (int l = 0; l < 20; l++) {
            int age = l < 7 ? 0 : l < 14 ? 1 : 2;
            int shift = age == 0 ? 42 * l : age == 1 ? 6 * (l - 7) : l - 14;
            x.run("line(" + age + ", 0, 9999, " + shift + ", NONE)");
        }
        x.is("today(0, 0, 0)", 294).is("turned(0, 0, 0, 0)", 0).is("turned(0, 0, 0, 293)", 293)
            .none("turned(0, 0, 0, 294)");
        x.is("today(0, 9999, 0)", 1).is("turned(0, 9999, 0, 0)", 9999).is("today(1, 0, 0)", 42).is("today(2, 0, 0)", 6);
        Edge y = Edge.of("38 today: as many in two AGES");
        for (int l = 0; l < 20; l++) {
            int shift = l < 10 ? 10 * l : l - 10;
            y.run("line(" + (l < 10 ? 1 : 2) + ", 0, 9999, " + shift + ", NONE)");
        }
        y.is("today(1, 0, 0)", 100).is("turned(1, 0, 0, 99)", 99).none("turned(1, 0, 0, 100)").is("today(0, 0, 0)", 0);
        Edge z = Edge.of("38 today: as many in one AGE");
        for (int l = 0; l < 20; l++) {
            z.run("line(2, 0, 9999, " + (19 - l) + ", NONE)");
        }
        z.is("today(2, 0, 0)", 20).is("turned(2, 0, 0, 19)", 19).is("turned(2, 9999, 0, 0)", 9999)
            .none("turned(2, 9999, 0, 1)");
    }
}
