/** Promises 24 to 36: SLIPS, FETCHERS, ROUNDS. */
public final class SlipsTest {
    public static void main(String[] args) {
        refusedSlips();
        readingMarks();
        fullOfSlips();
        loads();
        underEyes();
        telling();
        pacesAndTakes();
        sending();
        notThere();
        foretelling();
        rounds();
        tiesOfRounds();
        judging();
        firstOnes();
        besideAndCrowd();
        Due.end("SlipsTest");
    }

    private static void refusedSlips() {
        ReadersRoom x = new ReadersRoom();
        x.book(12, 0, false);
        Due.is("slip(-1, 0, 0)", x.slip(-1, 0, 0), ReadersRoom.BAD);
        Due.is("slip(8, 0, 0)", x.slip(8, 0, 0), ReadersRoom.BAD);
        Due.is("slip(0, -1, 0)", x.slip(0, -1, 0), ReadersRoom.BAD);
        Due.is("slip(0, 4, 0)", x.slip(0, 4, 0), ReadersRoom.BAD);
        Due.finds("NOTHING ahead of BEYOND", x.slip(0, 0, 50), x, 1);
        x.text(0, 0);
        Due.finds("an empty TEXT", x.slip(0, 0, 0), x, 2);
        Due.text(x, 1, "12 13a");
        Due.finds("slip(0, 1, 6)", x.slip(0, 1, 6), x, 2);
        Due.finds("slip(0, 1, -1)", x.slip(0, 1, -1), x, 2);
        Due.finds("a blank", x.slip(0, 1, 2), x, 3);
        Due.finds("a letter", x.slip(0, 1, 5), x, 3);
        Due.finds("no BOOK of that MARK", x.slip(0, 1, 3), x, 1);
        Due.rule(x, "Q0", 0);
        Due.finds("NOTHING ahead of STATE", x.slip(0, 1, 3), x, 1);
        Due.is("STATE", x.slip(0, 1, 0), ReadersRoom.STATE);
        Due.is("count(2)", x.count(2), 0);
        Due.is("findings(1)", x.findings(1), 3);
        Due.is("findings(2)", x.findings(2), 3);
        Due.is("findings(3)", x.findings(3), 2);
    }

    private static void readingMarks() {
        ReadersRoom x = new ReadersRoom();
        x.book(1234, 0, false);
        x.book(5, 0, false);
        x.book(2345, 0, false);
        x.book(345, 0, false);
        Due.text(x, 0, "12345 0005/0345:5");
        int[][] due = {{0, 0}, {1, 2}, {2, 3}, {4, 1}, {6, 1}, {8, 1}, {11, 3}, {12, 3}, {16, 1}};
        for (int k = 0; k < due.length; k++) {
            Due.is("slip at " + due[k][0], x.slip(k % 8, 0, due[k][0]), k);
            Due.is("its BOOK", Due.slipTold(x, k, 2), due[k][1]);
        }
        Due.finds("a sign ahead of the figures", x.slip(0, 0, 10), x, 3);
        Due.finds("a sign behind the figures", x.slip(0, 0, 15), x, 3);
    }

    private static void fullOfSlips() {
        ReadersRoom x = new ReadersRoom();
        x.book(1, 0, false);
        Due.text(x, 0, "1");
        for (int s = 0; s < 24; s++) {
            Due.is("slip " + s, x.slip(s % 8, 0, 0), s);
        }
        Due.is("the 25th", x.slip(0, 0, 0), ReadersRoom.FULL);
        Due.is("FULL ahead of NOTHING", x.slip(0, 1, 0), ReadersRoom.FULL);
        Due.is("FULL ahead of BEYOND", x.slip(0, 0, 9), ReadersRoom.FULL);
        Due.is("BAD ahead of FULL", x.slip(8, 0, 0), ReadersRoom.BAD);
        Due.rule(x, "Q0", 0);
        Due.is("FULL ahead of STATE", x.slip(0, 0, 0), ReadersRoom.FULL);
        Due.is("finding()", x.finding(), 0);
    }

    private static void loads() {
        ReadersRoom x = new ReadersRoom();
        for (int b = 0; b < 6; b++) {
            x.book(b, 0, false);
        }
        Due.rule(x, "Q3", 0);
        Due.rule(x, "Q1", 1);
        Due.is("slip", Due.slip(x, 5, 0), 0);
        Due.is("slip", Due.slip(x, 5, 1), 1);
        Due.is("slip", Due.slip(x, 5, 2), 2);
        Due.is("three that WAIT", Due.slip(x, 5, 3), ReadersRoom.STATE);
        Due.is("another READER", Due.slip(x, 4, 3), 3);
        x.send(0, 0);
        Due.is("one that GOES counts", Due.slip(x, 5, 4), ReadersRoom.STATE);
        x.later(4);
        Due.is("one at the SEAT counts", Due.slip(x, 5, 4), ReadersRoom.STATE);
        x.keep(0);
        Due.is("one KEPT counts", Due.slip(x, 5, 4), ReadersRoom.STATE);
        x.back(0, 0);
        Due.is("one given back counts not", Due.slip(x, 5, 4), 4);
        x.lose(1);
        x.send(0, 1);
        Due.is("one TURNED counts not", Due.slip(x, 5, 5), 5);
        x.later(1440);
        Due.is("the RULES of the next DAY", Due.slip(x, 5, 5), ReadersRoom.STATE);
        Due.is("the RULES of the next DAY", Due.slip(x, 0, 5), 6);
    }

    private static void underEyes() {
        ReadersRoom x = new ReadersRoom();
        x.book(1, 0, true);
        x.book(2, 0, false);
        Due.is("RARE without E", Due.slip(x, 0, 1), 0);
        Due.rule(x, "E1", 0);
        Due.is("RARE without an EYE", Due.slip(x, 0, 1), ReadersRoom.STATE);
        Due.is("not RARE", Due.slip(x, 0, 2), 1);
        x.eye(1, 2);
        Due.is("ahead of the EYE", Due.slip(x, 0, 1), ReadersRoom.STATE);
        x.later(1);
        Due.is("at its first minute", Due.slip(x, 0, 1), 2);
        x.later(1);
        Due.is("at its last minute", Due.slip(x, 0, 1), 3);
        x.later(1);
        Due.is("behind it", Due.slip(x, 0, 1), ReadersRoom.STATE);
        Due.rule(x, "E0", 0);
        Due.is("E 0", Due.slip(x, 0, 1), 4);
    }

    private static void telling() {
        ReadersRoom x = new ReadersRoom();
        x.book(1, 0, false);
        x.book(2, 5, false);
        x.later(7);
        Due.slip(x, 6, 2);
        int[] due = {0, 6, 1, 7, ReadersRoom.NONE};
        for (int what = 0; what <= 4; what++) {
            Due.is("slipTold(0, " + what + ")", Due.slipTold(x, 0, what), due[what]);
        }
        Due.is("slipTold(0, 5)", x.slipTold(0, 5), ReadersRoom.BAD);
        Due.is("slipTold(0, -1)", x.slipTold(0, -1), ReadersRoom.BAD);
        Due.is("slipTold(1, 0)", x.slipTold(1, 0), ReadersRoom.BAD);
        Due.is("slipTold(-1, 0)", x.slipTold(-1, 0), ReadersRoom.BAD);
        Due.is("asked()", x.asked(), ReadersRoom.NONE);
        x.later(1);
        x.send(2, 0);
        Due.is("it GOES", Due.slipTold(x, 0, 0), 1);
        Due.is("it is not DONE", Due.slipTold(x, 0, 4), ReadersRoom.NONE);
        Due.is("slip for one that is gone", Due.slip(x, 6, 2), 1);
        Due.is("it is TURNED", Due.slipTold(x, 1, 0), 3);
        Due.is("at once", Due.slipTold(x, 1, 4), 8);
        x.later(100);
        Due.is("it is DONE", Due.slipTold(x, 0, 0), 2);
        Due.is("at that minute", Due.slipTold(x, 0, 4), 16);
        x.bind(0, 200);
        Due.is("slip for one at the BINDER", Due.slip(x, 1, 1), 2);
        Due.is("it is TURNED", Due.slipTold(x, 2, 0), 3);
    }

    private static void pacesAndTakes() {
        ReadersRoom x = new ReadersRoom();
        int[] shelves = {0, 1, 2, 3, 4, 5, 6, 7};
        for (int shelf : shelves) {
            x.book(shelf, shelf, false);
            Due.slip(x, 0, shelf);
        }
        Due.is("pace(0, 0)", x.pace(0, 0), ReadersRoom.BAD);
        Due.is("pace(0, 10)", x.pace(0, 10), ReadersRoom.BAD);
        Due.is("pace(-1, 1)", x.pace(-1, 1), ReadersRoom.BAD);
        Due.is("pace(3, 1)", x.pace(3, 1), ReadersRoom.BAD);
        Due.is("pace(2, 9)", x.pace(2, 9), 1);
        Due.is("pace(2, 9)", x.pace(2, 9), 9);
        Due.is("pace(1, 2)", x.pace(1, 2), 1);
        for (int shelf : shelves) {
            Due.is("takes(0, " + shelf + ")", x.takes(0, shelf), 4 + shelf / 2 * 2);
            Due.is("takes(1, " + shelf + ")", x.takes(1, shelf), 4 + shelf / 2 * 4);
            Due.is("takes(2, " + shelf + ")", x.takes(2, shelf), 4 + shelf / 2 * 18);
        }
        Due.is("takes(3, 0)", x.takes(3, 0), ReadersRoom.BAD);
        Due.is("takes(-1, 0)", x.takes(-1, 0), ReadersRoom.BAD);
        Due.is("takes(0, 8)", x.takes(0, 8), ReadersRoom.BAD);
        Due.is("takes(0, -1)", x.takes(0, -1), ReadersRoom.BAD);
        Due.is("free(3)", x.free(3), ReadersRoom.BAD);
        Due.is("free(-1)", x.free(-1), ReadersRoom.BAD);
        x.send(2, 7);
        Due.is("free(2)", x.free(2), 58);
        Due.is("pace(2, 1)", x.pace(2, 1), 9);
        Due.is("a new PACE is for the next one", x.free(2), 58);
        x.later(58);
        Due.is("takes of one that is DONE", x.takes(2, 7), 10);
        Due.is("free(2)", x.free(2), 58);
    }

    private static void sending() {
        ReadersRoom x = new ReadersRoom();
        x.book(1, 2, false);
        x.book(2, 7, false);
        Due.slip(x, 0, 1);
        Due.slip(x, 1, 2);
        Due.slip(x, 2, 1);
        Due.is("send(3, 0)", x.send(3, 0), ReadersRoom.BAD);
        Due.is("send(-1, 0)", x.send(-1, 0), ReadersRoom.BAD);
        Due.is("send(0, 3)", x.send(0, 3), ReadersRoom.BAD);
        Due.is("send(0, -1)", x.send(0, -1), ReadersRoom.BAD);
        Due.is("send(0, 0)", x.send(0, 0), 1);
        Due.is("it GOES", x.send(1, 0), ReadersRoom.STATE);
        Due.is("he is not FREE", x.send(0, 1), ReadersRoom.STATE);
        x.later(5);
        Due.is("he is not FREE yet", x.send(0, 1), ReadersRoom.STATE);
        x.later(1);
        Due.is("it is DONE", x.send(1, 0), ReadersRoom.STATE);
        x.later(99989 - 6);
        x.pace(0, 2);
        Due.is("FREE beyond 99999", x.send(0, 1), ReadersRoom.STATE);
        Due.is("FREE at 99999", x.send(1, 1), 1);
        Due.is("free(1)", x.free(1), 99999);
        x.later(10);
        Due.is("at the SEAT at 99999", x.mark(1, 1), 1);
        Due.is("beyond, though it is not there", x.send(2, 2), ReadersRoom.STATE);
        Due.is("it WAITS still", Due.slipTold(x, 2, 0), 0);
    }

    private static void notThere() {
        ReadersRoom x = new ReadersRoom();
        x.book(1, 2, false);
        x.book(2, 4, false);
        Due.slip(x, 0, 1);
        Due.slip(x, 1, 1);
        Due.slip(x, 2, 2);
        Due.slip(x, 3, 2);
        x.send(0, 0);
        x.later(2);
        Due.is("one that is GOING", x.send(1, 1), 0);
        Due.is("the SLIP is TURNED", Due.slipTold(x, 1, 0), 3);
        Due.is("at once", Due.slipTold(x, 1, 4), 2);
        Due.is("he is FREE as many minutes later", x.free(1), 8);
        Due.is("BELIEVED as it was", Due.told(x, 0, 4), 1);
        Due.is("no LOOK", x.count(5), 0);
        x.lose(1);
        Due.is("a LOST one", x.send(2, 2), 0);
        Due.is("free(2)", x.free(2), 10);
        Due.is("MISSING is BELIEVED", Due.told(x, 1, 4), 3);
        Due.is("its LOOK", x.look(1, 0, 0), 2);
        Due.is("its LOOK", x.look(1, 0, 1), 0);
        x.later(10);
        Due.is("a MISSING one", x.send(0, 3), 0);
        Due.is("it is TURNED", Due.slipTold(x, 3, 4), 12);
        Due.is("MISSING stays", Due.told(x, 1, 4), 3);
        Due.is("no other LOOK", x.count(5), 1);
        Due.is("a SLIP for a MISSING one", Due.slip(x, 4, 2), 4);
        Due.is("is TURNED", Due.slipTold(x, 4, 0), 3);
    }

    private static void foretelling() {
        ReadersRoom x = new ReadersRoom();
        for (int b = 0; b < 8; b++) {
            x.book(b, b, false);
        }
        Due.is("foretell(0)", x.foretell(0), ReadersRoom.BAD);
        x.pace(1, 3);
        x.pace(2, 9);
        int[] wanted = {6, 0, 4, 2, 6};
        for (int k = 0; k < wanted.length; k++) {
            Due.slip(x, k, wanted[k]);
        }
        Due.is("foretell(-1)", x.foretell(-1), ReadersRoom.BAD);
        Due.is("foretell(5)", x.foretell(5), ReadersRoom.BAD);
        // ends: 0 by f0 at 10; 1 by f1 at 4; 2 by f0 at 18; 3 by f1 at 14; 4 by f0 at 28
        int[] due = {10, 4, 18, 14, 28};
        for (int k = 0; k < due.length; k++) {
            Due.is("foretell(" + k + ")", x.foretell(k), due[k]);
        }
        x.send(0, 1);
        x.later(1);
        Due.is("it does not WAIT", x.foretell(1), ReadersRoom.STATE);
        // from now: f0 free in 3, f1 and f2 at once: 0 by f0 at 13; 2: f1 at 16; 3: f0 at 19, f1 at 26, f2 at 22
        Due.is("foretell(0)", x.foretell(0), 13);
        Due.is("foretell(2)", x.foretell(2), 16);
        Due.is("foretell(3)", x.foretell(3), 19);
        x.later(100);
        Due.is("all FREE long ago", x.foretell(0), 10);
    }

    private static void rounds() {
        ReadersRoom x = new ReadersRoom();
        for (int b = 0; b < 8; b++) {
            x.book(b, b, false);
        }
        Due.is("round() of none", x.round(), 0);
        Due.is("roundOf(0)", x.roundOf(0), ReadersRoom.BAD);
        Due.slip(x, 0, 6);
        Due.slip(x, 1, 0);
        Due.is("round() of two", x.round(), 14);
        Due.is("roundOf(0)", x.roundOf(0), 0);
        Due.is("roundOf(1)", x.roundOf(1), 1);
        Due.is("roundOf(2)", x.roundOf(2), ReadersRoom.BAD);
        Due.is("roundOf(-1)", x.roundOf(-1), ReadersRoom.BAD);
        x.send(0, 1);
        x.later(1);
        Due.is("roundOf one that GOES", x.roundOf(1), ReadersRoom.NONE);
        Due.is("one alone, the first is not FREE", x.round(), 10);
        Due.is("roundOf(0)", x.roundOf(0), 1);
        for (int k = 0; k < 5; k++) {
            Due.slip(x, k, 2 + k);
        }
        Due.is("six WAIT", x.round() > 0 ? 1 : 0, 1);
        Due.slip(x, 7, 7);
        Due.is("seven WAIT", x.round(), ReadersRoom.SPENT);
        Due.is("roundOf one of seven", x.roundOf(0), ReadersRoom.SPENT);
        Due.is("SPENT ahead of NONE", x.roundOf(1), ReadersRoom.SPENT);
        Due.is("BAD ahead of SPENT", x.roundOf(8), ReadersRoom.BAD);
        x.lose(6);
        x.later(9);
        x.send(1, 0);
        Due.is("six WAIT again", x.round() > 0 ? 1 : 0, 1);
        Due.is("roundOf one TURNED", x.roundOf(0), ReadersRoom.NONE);
    }

    /** Each FETCHER brings the shortest first; alike SUMS go by the FETCHERS of the SLIPS by number. */
    private static void tiesOfRounds() {
        ReadersRoom x = new ReadersRoom();
        for (int b = 0; b < 8; b++) {
            x.book(b, b, false);
        }
        int[] wanted = {6, 0, 1, 7, 2, 3};
        for (int k = 0; k < wanted.length; k++) {
            Due.slip(x, k, wanted[k]);
        }
        // 4, 4 and 6 at once, then 6, 10 and 10 behind them: 4 + 4 + 6 + 10 + 14 + 16
        Due.is("round()", x.round(), 54);
        int code = 0;
        for (int k = 0; k < 6; k++) {
            code = code * 3 + x.roundOf(k);
        }
        Due.is("the first of alike ones", code, firstOf54(wanted));
        Due.is("slip 0", x.roundOf(0), 0);
        Due.is("slip 1", x.roundOf(1), 0);
    }

    /** All ROUNDS in their order, the FETCHERS with their first PACE. */
    private static int firstOf54(int[] wanted) {
        for (int code = 0; code < 729; code++) {
            int sum = 0;
            int[] ends = new int[3];
            for (int floor = 0; floor < 4; floor++) {
                for (int k = 0, unit = 243; k < 6; k++, unit /= 3) {
                    int f = code / unit % 3;
                    if (wanted[k] / 2 == floor) {
                        ends[f] += 4 + 2 * floor;
                        sum += ends[f];
                    }
                }
            }
            if (sum == 54) {
                return code;
            }
        }
        return -1;
    }

    private static void judging() {
        ReadersRoom x = new ReadersRoom();
        for (int b = 0; b < 8; b++) {
            x.book(b, b, false);
        }
        Due.is("judge(-1)", x.judge(-1), ReadersRoom.BAD);
        Due.is("judge(6)", x.judge(6), ReadersRoom.BAD);
        Due.finds("judge of a missing one", x.judge(0), x, 1);
        x.row(0, 0);
        Due.is("none WAITS", x.judge(0), 0);
        Due.slip(x, 0, 6);
        Due.slip(x, 1, 0);
        Due.slip(x, 2, 2);
        Due.finds("fewer", x.judge(0), x, 5);
        Due.row(x, 0, 0, 0, 0, 0);
        Due.finds("more", x.judge(0), x, 5);
        Due.row(x, 0, 0, 3, 0);
        Due.finds("a FETCHER that is none", x.judge(0), x, 3);
        Due.row(x, 0, 0, 0, -1);
        Due.finds("a FETCHER that is none", x.judge(0), x, 3);
        Due.row(x, 0, 0, 3);
        Due.finds("SIZE ahead of UNLIKE", x.judge(0), x, 5);
        Due.row(x, 0, 0, 0, 0);
        Due.is("the shortest first", x.judge(0), 4 + 10 + 20);
        x.pace(0, 2);
        Due.is("by his PACE", x.judge(0), 4 + 12 + 28);
        Due.row(x, 0, 1, 0, 1);
        Due.is("two FETCHERS", x.judge(0), 4 + 6 + 16);
        x.send(1, 2);
        x.later(2);
        Due.row(x, 0, 1, 1);
        Due.is("from when he is FREE on", x.judge(0), 8 + 18);
        x.later(50);
        Due.is("from NOW on", x.judge(0), 4 + 14);
    }

    private static void firstOnes() {
        ReadersRoom x = new ReadersRoom();
        x.book(1, 0, false);
        x.book(2, 0, false);
        Due.is("first(-1)", x.first(-1), ReadersRoom.BAD);
        Due.is("first(2)", x.first(2), ReadersRoom.BAD);
        Due.is("none WAITS", x.first(0), ReadersRoom.NONE);
        Due.slip(x, 7, 2);
        x.send(0, 0);
        x.later(4);
        Due.slip(x, 7, 1);
        Due.slip(x, 5, 1);
        Due.slip(x, 3, 1);
        Due.slip(x, 3, 1);
        Due.is("none WAITS for the other", x.first(1), ReadersRoom.NONE);
        Due.is("W 0: the least SLIP", x.first(0), 1);
        Due.rule(x, "W1", 0);
        Due.is("W 1: the fewest BOOKS", x.first(0), 2);
        Due.rule(x, "W2", 0);
        Due.is("W 2: the least READER", x.first(0), 3);
        Due.rule(x, "W3", 0);
        Due.is("W 3: as 2", x.first(0), 3);
        Due.rule(x, "W99", 0);
        Due.is("W 99: as 2", x.first(0), 3);
        Due.rule(x, "W1", 0);
        x.back(1, 0);
        Due.is("alike ones: the least SLIP", x.first(0), 1);
        x.send(0, 1);
        Due.is("one that GOES is none", x.first(0), 2);
    }

    private static void besideAndCrowd() {
        ReadersRoom x = new ReadersRoom();
        for (int b = 0; b < 8; b++) {
            x.book(b, 0, false);
        }
        Due.is("beside(-1)", x.beside(-1), ReadersRoom.BAD);
        Due.is("beside(100)", x.beside(100), ReadersRoom.BAD);
        Due.is("crowd(-1)", x.crowd(-1), ReadersRoom.BAD);
        Due.is("crowd(70)", x.crowd(70), ReadersRoom.BAD);
        Due.is("beside(0) of none", x.beside(0), 0);
        Due.is("crowd(0) of none", x.crowd(0), 0);
        Due.slip(x, 0, 0);
        Due.slip(x, 0, 1);
        Due.slip(x, 0, 2);
        x.send(0, 0);
        x.later(1439);
        x.back(0, 0);
        Due.slip(x, 0, 3);
        Due.slip(x, 1, 4);
        x.later(1);
        Due.slip(x, 1, 5);
        Due.slip(x, 2, 6);
        int[] due = {7, 4, 2, 0};
        for (int q = 0; q < due.length; q++) {
            Due.is("beside(" + q + ")", x.beside(q), due[q]);
        }
        Due.is("beside(99)", x.beside(99), 0);
        Due.is("crowd(0)", x.crowd(0), 2);
        Due.is("crowd(1)", x.crowd(1), 2);
        Due.is("crowd(2)", x.crowd(2), 0);
    }
}
