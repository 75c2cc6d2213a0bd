/** Promises 19 to 23: RULES in TEXTS. */
public final class RulesTest {
    public static void main(String[] args) {
        faults();
        making();
        force();
        known();
        quarrels();
        Due.end("RulesTest");
    }

    private static void faultOf(String signs, int want) {
        ReadersRoom x = new ReadersRoom();
        Due.text(x, 0, signs);
        Due.is("fault of '" + signs + "'", x.fault(0), want);
        Due.is("rule of '" + signs + "'", x.rule(0, 0), want == ReadersRoom.NONE ? 0 : ReadersRoom.STATE);
        Due.is("count(3)", x.count(3), want == ReadersRoom.NONE ? 1 : 0);
    }

    private static void faults() {
        faultOf("", ReadersRoom.NONE);
        faultOf("   ", ReadersRoom.NONE);
        faultOf("Q1", ReadersRoom.NONE);
        faultOf("Q1K2W3E4", ReadersRoom.NONE);
        faultOf("  Q12  K0   ", ReadersRoom.NONE);
        faultOf("Q", 1);
        faultOf("Q1 K", 4);
        faultOf("Q 1", 1);
        faultOf("Q123", 3);
        faultOf("1", 0);
        faultOf("q1", 0);
        faultOf("Q1,K2", 2);
        faultOf("Q1 1", 3);
        faultOf("QK1", 1);
        faultOf("Q/", 1);
        faultOf("Q:", 1);
        faultOf("Q9/", 2);
        faultOf("Q9:", 2);
        faultOf("D1", 0);
        faultOf("R1", 0);
        faultOf("Q1\t", 2);
        faultOf("Q1".repeat(19) + "Q", 39);
        faultOf("Q1".repeat(19) + " Q", 40);
        faultOf("Q1".repeat(20), ReadersRoom.NONE);
        ReadersRoom x = new ReadersRoom();
        Due.is("fault(4)", x.fault(4), ReadersRoom.BAD);
        Due.is("fault(-1)", x.fault(-1), ReadersRoom.BAD);
        Due.finds("fault of a missing one", x.fault(1), x, 1);
        x.text(1, 2);
        x.put(1, 0, 'Q' + 256);
        x.put(1, 1, '5' - 256);
        Due.is("fault of cut bytes", x.fault(1), ReadersRoom.NONE);
        x.put(1, 0, -96);
        Due.is("fault of a byte below 0", x.fault(1), 0);
    }

    private static void making() {
        ReadersRoom x = new ReadersRoom();
        x.text(0, 0);
        x.text(1, 1);
        x.put(1, 0, 'Q');
        Due.is("rule(4, 0)", x.rule(4, 0), ReadersRoom.BAD);
        Due.is("rule(-1, 0)", x.rule(-1, 0), ReadersRoom.BAD);
        Due.is("rule(0, -1)", x.rule(0, -1), ReadersRoom.BAD);
        Due.is("rule(0, 70)", x.rule(0, 70), ReadersRoom.BAD);
        Due.finds("rule(2, 0)", x.rule(2, 0), x, 1);
        Due.is("rule(1, 0)", x.rule(1, 0), ReadersRoom.STATE);
        for (int r = 0; r < 16; r++) {
            Due.is("rule " + r, x.rule(0, 69), r);
        }
        Due.is("the 17th", x.rule(0, 0), ReadersRoom.FULL);
        Due.is("FULL ahead of NOTHING", x.rule(2, 0), ReadersRoom.FULL);
        Due.is("FULL ahead of STATE", x.rule(1, 0), ReadersRoom.FULL);
        Due.is("BAD ahead of FULL", x.rule(0, 70), ReadersRoom.BAD);
        Due.is("count(3)", x.count(3), 16);
        Due.is("findings(1)", x.findings(1), 1);
    }

    private static void force() {
        ReadersRoom x = new ReadersRoom();
        int[] untold = {9, 3, 0, 0};
        for (int what = 0; what < 4; what++) {
            Due.is("force of none", x.force(what, 0, 0), untold[what]);
            Due.is("why of none", x.why(what, 69, 69), ReadersRoom.NONE);
        }
        Due.is("rule", Due.rule(x, "Q5 Q6 W77", 10), 0);
        Due.is("rule", Due.rule(x, "Q8 E1", 4), 1);
        Due.is("force ahead of all", x.force(0, 3, 0), 9);
        Due.is("force from DAY 4 on", x.force(0, 4, 0), 8);
        Due.is("why", x.why(0, 9, 0), 1);
        Due.is("the latest from-DAY, its last item", x.force(0, 10, 0), 6);
        Due.is("why", x.why(0, 69, 0), 0);
        Due.is("W as it is told", x.force(2, 10, 0), 77);
        Due.is("E", x.force(3, 10, 0), 1);
        Due.is("why E", x.why(3, 10, 0), 1);
        Due.is("K of none", x.force(1, 69, 69), 3);
        Due.is("rule", Due.rule(x, "Q0", 10), 2);
        Due.is("of alike ones the one told last", x.force(0, 10, 0), 0);
        Due.is("why", x.why(0, 10, 0), 2);
        Due.is("rule", Due.rule(x, "K4", 10), 3);
        Due.is("one without that letter", x.why(0, 10, 0), 2);
        x.text(3, 0);
        Due.is("a TEXT changed changes no RULES", x.force(1, 10, 0), 4);
        for (int bad : new int[] {-1, 4}) {
            Due.is("force", x.force(bad, 0, 0), ReadersRoom.BAD);
            Due.is("why", x.why(bad, 0, 0), ReadersRoom.BAD);
            Due.is("quarrel", x.quarrel(bad, 0, 0), ReadersRoom.BAD);
        }
        for (int bad : new int[] {-1, 70}) {
            Due.is("force", x.force(0, bad, 0), ReadersRoom.BAD);
            Due.is("why", x.why(0, bad, 0), ReadersRoom.BAD);
            Due.is("quarrel", x.quarrel(0, bad, 0), ReadersRoom.BAD);
            Due.is("force", x.force(0, 0, bad), ReadersRoom.BAD);
            Due.is("why", x.why(0, 0, bad), ReadersRoom.BAD);
            Due.is("quarrel", x.quarrel(0, 0, bad), ReadersRoom.BAD);
        }
    }

    private static void known() {
        ReadersRoom x = new ReadersRoom();
        x.later(2 * 1440 - 1);
        Due.is("rule", Due.rule(x, "K5", 0), 0);
        x.later(1);
        Due.is("rule", Due.rule(x, "K6", 0), 1);
        Due.is("as known on DAY 0", x.force(1, 3, 0), 3);
        Due.is("why", x.why(1, 3, 0), ReadersRoom.NONE);
        Due.is("as known on DAY 1", x.force(1, 3, 1), 5);
        Due.is("as known on DAY 2", x.force(1, 0, 2), 6);
        Due.is("as known on DAY 69", x.why(1, 0, 69), 1);
        Due.is("no quarrel as known on DAY 1", x.quarrel(1, 3, 1), ReadersRoom.NONE);
        Due.is("a quarrel as known on DAY 2", x.quarrel(1, 3, 2), 1);
    }

    private static void quarrels() {
        ReadersRoom x = new ReadersRoom();
        Due.is("none", x.quarrel(0, 0, 0), ReadersRoom.NONE);
        Due.rule(x, "Q5", 3);
        Due.is("one alone", x.quarrel(0, 3, 0), ReadersRoom.NONE);
        Due.rule(x, "Q4 Q5", 3);
        Due.is("alike last items", x.quarrel(0, 3, 0), ReadersRoom.NONE);
        Due.rule(x, "K1", 3);
        Due.rule(x, "Q5 Q4", 3);
        Due.is("the first two", x.quarrel(0, 3, 0), 3);
        Due.is("ahead of that DAY", x.quarrel(0, 2, 0), ReadersRoom.NONE);
        Due.rule(x, "Q1", 7);
        Due.is("a later from-DAY ends it", x.quarrel(0, 7, 0), ReadersRoom.NONE);
        Due.is("ahead of that it stays", x.quarrel(0, 6, 0), 3);
        Due.rule(x, "Q4", 3);
        Due.rule(x, "W3", 7);
        Due.rule(x, "Q01", 7);
        Due.rule(x, "W2", 7);
        Due.rule(x, "Q2", 7);
        Due.is("the first two on DAY 7", x.quarrel(0, 7, 0), 409);
        Due.is("numbers, not what they do", x.quarrel(2, 7, 0), 608);
        Due.is("another letter", x.quarrel(1, 7, 0), ReadersRoom.NONE);
    }
}
