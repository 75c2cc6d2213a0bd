/** The boundary cases of promises 19 to 23: RULES in TEXTS. */
final class RulesEdges {
    private static final String LETTERS = "QKWE";

    private RulesEdges() {
    }

    static void all() {
        fault();
        faultPlaces();
        faultBytes();
        rule();
        ruleOrder();
        ruleRefused();
        askedBounds();
        forceByDays();
        forceByItems();
        forceOfOthers();
        forceUntold();
        why();
        quarrel();
    }

    private static void fault() {
        Edge.of("19 fault: BAD").run("text(0, 1)", "text(3, 1)").within("fault(#)", 0, 3);
        Edge.of("19 fault: NOTHING").nothing("fault(0)", "fault(1)", "fault(2)", "fault(3)");
        Edge.of("19 fault: NONE of an empty TEXT, of one with blanks alone")
            .run("text(0, 0)", "text(1, 1)", "text(2, 40)").none("fault(0)", "fault(1)", "fault(2)");
    }

    private static void faultPlaces() {
        Object[][] texts = {{"Q1", -9}, {" Q1", -9}, {"Q1 ", -9}, {"Q12", -9}, {"Q1K2", -9}, {"Q12K34", -9},
            {"Q1  K2", -9},
            {"Q00", -9}, {"E99", -9}, {"Q", 1}, {"Q1K", 3}, {"Q12K", 4}, {"   Q", 4}, {"Q ", 1}, {"Q 1", 1}, {"QQ1", 1},
            {"Q123", 3}, {"Q1 2", 3}, {"Q12 3", 4}, {"1Q", 0}, {"q1", 0}, {"k1", 0}, {"Q-1", 1}, {"Q1.", 2},
                {"Q1,K2", 2},
            {"X", 0}, {"Q1X1", 2}, {"Q1x", 2}};
        for (Object[] text : texts) {
            Edge.of("19 fault: the first place at which it can't go on so ('" + text[0] + "')")
                .write(0, (String) text[0]).is("fault(0)", (Integer) text[1]);
        }
        String full = "Q1K2W3E4Q1K2W3E4Q1K2W3E4Q1K2W3E4Q1K2W3";
        Edge.of("19 fault: the TEXT's size, if its end comes too early, of 40").write(0, full + " E")
            .is("fault(0)", 40);
        Edge.of("19 fault: at the last place of 40").write(0, full + "E ").is("fault(0)", 39);
        Edge.of("19 fault: none in 40").write(0, full + "E4").none("fault(0)").write(1, full + "99").is("fault(1)", 39);
        Edge.of("19 fault: one sign").write(0, "Q").is("fault(0)", 1).write(1, "1").is("fault(1)", 0);
        Edge.of("19 fault: nothing of a TEXT that was longer").write(0, "Q1xx").is("fault(0)", 2).run("text(0, 2)")
            .none("fault(0)").run("put(0, 1, 81)").is("fault(0)", 2);
    }

    /** Each byte at each place of an item: a letter begins one, a figure goes on, a blank stands between. */
    private static void faultBytes() {
        for (int begin = -128; begin < 128; begin += 32) {

                Edge x = Edge.of("19 fault: each byte ahead of an item, behind a letter, a figure, two figures");
            x.run("text(0, 1)").write(1, "Q ").write(2, "Q1 ").write(3, "Q12 ");
            for (int v = begin; v < begin + 32; v++) {
                boolean figure = v >= '0' && v <= '9';
                boolean letter = v > 0 && LETTERS.indexOf((char) v) >= 0;
                boolean blank = v == ' ';
                x.run("put(0, 0, " + v + ")").is("fault(0)", blank ? -9 : letter ? 1 : 0);
                x.run("put(1, 1, " + v + ")").is("fault(1)", figure ? -9 : 1);
                x.run("put(2, 2, " + v + ")").is("fault(2)", figure || blank ? -9 : letter ? 3 : 2);
                x.run("put(3, 3, " + v + ")").is("fault(3)", blank ? -9 : letter ? 4 : 3);
            }
        }
        Edge.of("19 fault: bytes are cut").run("text(0, 2)", "put(0, 0, 337)", "put(0, 1, -207)").none("fault(0)");
    }

    private static void rule() {
        Edge.of("20 rule: BAD: TEXT").run("text(0, 0)", "text(3, 0)").within("rule(#, 0)", 0, 3);
        Edge.of("20 rule: BAD: DAY").run("text(0, 0)").within("rule(0, #)", 0, 69);
        Edge.of("20 rule: NOTHING").nothing("rule(0, 0)", "rule(3, 69)");
        Edge.of("20 rule: STATE: the TEXT has a FAULT").write(0, "Q1 K").state("rule(0, 0)").write(0, "x")
            .state("rule(0, 0)").write(0, "Q123").state("rule(0, 0)").write(0, "Q1 K2").is("rule(0, 0)", 0);
        Edge x = Edge.of("20 rule: their number; FULL beyond 16").write(0, "Q5");
        for (int r = 0; r < 16; r++) {
            x.is("rule(0, " + r + ")", r);
        }
        x.full("rule(0, 0)").is("count(3)", 16).is("why(0, 69, 0)", 15);
        Edge.of("20 rule: an empty TEXT").run("text(0, 0)").is("rule(0, 0)", 0).is("count(3)", 1)
            .none("why(0, 69, 69)");
    }

    private static void ruleOrder() {
        Edge.of("20 rule: BAD ahead of NOTHING").bad("rule(0, 70)", "rule(3, -1)", "rule(4, 0)", "rule(-1, 70)");
        Edge.of("20 rule: BAD ahead of STATE").write(0, "x").bad("rule(0, 70)", "rule(0, MIN)", "rule(0, MAX)");
        Edge x = Edge.of("20 rule: FULL ahead of NOTHING and STATE, BAD ahead of FULL").write(0, "Q5").write(1, "x");
        x.times(16, "rule(0, 0)").full("rule(2, 0)", "rule(1, 0)", "rule(0, 69)")
            .bad("rule(0, 70)", "rule(4, 0)", "rule(1, -1)");
        x.bad("rule(2, 70)", "rule(MAX, 0)", "rule(MIN, MIN)");
    }

    private static void ruleRefused() {
        Edge.of("20 rule: what is refused leaves what is IN FORCE").rules("Q5", 0).write(0, "Q6 Q").state("rule(0, 0)")
            .is("force(0, 0, 0)", 5).is("count(3)", 1).is("why(0, 0, 0)", 0);
        Edge.of("20 rule: a TEXT that is changed behind changes no RULES").write(0, "Q6")
            .run("rule(0, 0)", "put(0, 1, 55)").is("force(0, 0, 0)", 6).run("text(0, 0)").is("force(0, 0, 0)", 6);
    }

    private static void askedBounds() {
        for (String call : new String[] {"force", "why", "quarrel"}) {
            String number = call.equals("force") ? "21 " : call.equals("why") ? "22 " : "23 ";
            Edge.of(number + call + ": BAD: letter").within(call + "(#, 0, 0)", 0, 3);
            Edge.of(number + call + ": BAD: DAY").within(call + "(0, #, 0)", 0, 69);
            Edge.of(number + call + ": BAD: the DAY on which it is known").within(call + "(3, 69, #)", 0, 69);
            Edge.of(number + call + ": BAD with RULES").rules("Q1K1W1E1", 0)
                .bad(call + "(4, 0, 0)", call + "(-1, 0, 0)")
                .bad(call + "(0, 70, 0)", call + "(0, 0, 70)", call + "(0, -1, 0)", call + "(0, 0, -1)")
                .bad(call + "(MAX, MAX, MAX)", call + "(MIN, MIN, MIN)");
        }
    }

    private static void forceByDays() {
        Edge x = Edge.of("21 force: in force from the DAY or ahead of it").rules("Q5", 10).rules("Q6", 11);
        x.is("force(0, 9, 0)", 9).is("force(0, 10, 0)", 5).is("force(0, 11, 0)", 6).is("force(0, 12, 0)", 6)
            .is("force(0, 69, 0)", 6);
        Edge.of("21 force: from the first DAY and from the last one").rules("Q5", 0).rules("Q6", 69)
            .is("force(0, 0, 0)", 5).is("force(0, 68, 0)", 5).is("force(0, 69, 0)", 6);
        Edge y = Edge.of("21 force: told on the DAY or ahead of it").run("later(1439)").rules("Q5", 0).run("later(1)")
            .rules("Q6", 0);
        y.is("force(0, 0, 0)", 5).is("force(0, 0, 1)", 6).is("force(0, 5, 0)", 5).is("force(0, 69, 69)", 6);
        Edge.of("21 force: told on the last DAY").run("later(99999)").rules("Q5", 0).is("force(0, 0, 68)", 9)
            .is("force(0, 0, 69)", 5).is("force(0, 69, 68)", 9);
        Edge.of("21 force: the latest from-DAY, though told ahead").rules("Q5", 9).rules("Q6", 8)
            .is("force(0, 9, 0)", 5).is("force(0, 8, 0)", 6).is("why(0, 9, 0)", 0).is("why(0, 8, 0)", 1);
        Edge.of("21 force: of alike ones the one told last").rules("Q5", 8).rules("Q6", 8).rules("K1", 8)
            .is("force(0, 8, 0)", 6);
    }

    private static void forceByItems() {
        Edge.of("21 force: one digit or two").rules("Q0K9W10E99", 0).is("force(0, 0, 0)", 0).is("force(1, 0, 0)", 9)
            .is("force(2, 0, 0)", 10).is("force(3, 0, 0)", 99);
        Edge.of("21 force: digits with 0 ahead").rules("Q00K09W01E90", 0).is("force(0, 0, 0)", 0)
            .is("force(1, 0, 0)", 9).is("force(2, 0, 0)", 1).is("force(3, 0, 0)", 90);
        Edge.of("21 force: the last item of the RULE").rules("Q5 Q7 K1 Q6", 0).is("force(0, 0, 0)", 6)
            .is("force(1, 0, 0)", 1);
        Edge.of("21 force: items up to the TEXT's end").write(0, "Q1".repeat(19) + "Q2").run("rule(0, 0)")
            .is("force(0, 0, 0)", 2);
        Edge.of("21 force: the blanks around").rules("   W3   ", 0).is("force(2, 0, 0)", 3);
    }

    private static void forceOfOthers() {
        String[] others = {"K1W1E1", "Q1W1E1", "Q1K1E1", "Q1K1W1"};
        for (int what = 0; what < 4; what++) {
            Edge.of("21 force: RULES without that letter tell nothing of it, nor quarrel")
                .rules(LETTERS.charAt(what) + "8", 3).rules(others[what], 3).rules("", 4)
                .is("force(" + what + ", 4, 0)", 8).is("why(" + what + ", 4, 0)", 0)
                .none("quarrel(" + what + ", 4, 0)");
        }
    }

    private static void forceUntold() {
        Edge.of("21 force: none: Q 9, K 3, W 0, E 0").is("force(0, 0, 0)", 9).is("force(1, 0, 0)", 3)
            .is("force(2, 69, 69)", 0).is("force(3, 69, 69)", 0);
        Edge.of("21 force: none of that letter").rules("Q1", 0).is("force(1, 69, 69)", 3).is("force(2, 69, 69)", 0)
            .is("force(3, 69, 69)", 0).rules("K1W1E1", 1).is("force(1, 0, 69)", 3).is("force(0, 69, 69)", 1);
        Edge.of("21 force: RULES of an empty TEXT").rules("", 0).is("force(0, 0, 0)", 9);
    }

    private static void why() {
        Edge.of("22 why: NONE: by none").none("why(0, 0, 0)", "why(3, 69, 69)").rules("Q1", 5)
            .none("why(0, 4, 0)", "why(1, 5, 0)").is("why(0, 5, 0)", 0).is("why(0, 69, 69)", 0);
        Edge.of("22 why: NONE ahead of the DAY on which it was told").run("later(1440)").rules("Q1", 0)
            .none("why(0, 0, 0)").is("why(0, 0, 1)", 0);
        Edge x = Edge.of("22 why: the last RULES of 16").write(0, "E1").times(16, "rule(0, 3)").is("why(3, 3, 0)", 15);
        x.none("why(3, 2, 0)", "why(0, 3, 0)");
    }

    private static void quarrel() {
        Edge.of("23 quarrel: NONE: no RULES, one alone, alike numbers").none("quarrel(0, 0, 0)").rules("Q1", 0)
            .none("quarrel(0, 0, 0)").rules("Q01", 0).none("quarrel(0, 0, 0)").rules("Q2 Q1", 0)
            .none("quarrel(0, 0, 0)");
        Edge.of("23 quarrel: the lesser one is 0").rules("Q1", 0).rules("Q2", 0).is("quarrel(0, 0, 0)", 1)
            .none("quarrel(1, 0, 0)");
        Edge x = Edge.of("23 quarrel: the last two of 16").write(0, "Q1").times(14, "rule(0, 0)").run("rule(0, 1)")
            .none("quarrel(0, 1, 0)");
        x.rules("Q2", 1).is("quarrel(0, 1, 0)", 1415).none("quarrel(0, 0, 0)").full("rule(0, 0)");
        Edge.of("23 quarrel: the first two").rules("Q1", 0).rules("Q1", 0).rules("Q3", 0).rules("Q4", 0)
            .is("quarrel(0, 0, 0)", 2);
        Edge.of("23 quarrel: both have that latest from-DAY").rules("Q1", 3).rules("Q2", 4)
            .none("quarrel(0, 4, 0)", "quarrel(0, 3, 0)").rules("Q5", 3).is("quarrel(0, 3, 0)", 2)
            .none("quarrel(0, 4, 0)").rules("Q6", 4).is("quarrel(0, 4, 0)", 103).is("quarrel(0, 69, 69)", 103)
            .none("quarrel(0, 2, 0)");
        Edge.of("23 quarrel: as known on a DAY").rules("Q1", 0).run("later(1440)").rules("Q2", 0)
            .none("quarrel(0, 0, 0)").is("quarrel(0, 0, 1)", 1);
        Edge.of("23 quarrel: unlike numbers that do the same").rules("W2", 0).rules("W3", 0).is("quarrel(2, 0, 0)", 1)
            .is("force(2, 0, 0)", 3);
        Edge.of("23 quarrel: numbers 0 and none").rules("E1", 0).rules("Q5", 0).none("quarrel(3, 0, 0)").rules("E0", 0)
            .is("quarrel(3, 0, 0)", 2);
    }
}
