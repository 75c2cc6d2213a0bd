/** Promises 51 to 57: what is told. */
public final class ToldTest {
    public static void main(String[] args) {
        constants();
        asked();
        counts();
        findings();
        digests();
        Due.end("ToldTest");
    }

    private static void constants() {
        Due.is("BAD", ReadersRoom.BAD, -1);
        Due.is("FULL", ReadersRoom.FULL, -2);
        Due.is("FINDING", ReadersRoom.FINDING, -3);
        Due.is("STATE", ReadersRoom.STATE, -4);
        Due.is("SPENT", ReadersRoom.SPENT, -6);
        Due.is("NONE", ReadersRoom.NONE, -9);
    }

    private static void asked() {
        ReadersRoom x = new ReadersRoom();
        Due.is("asked() before", x.asked(), 0);
        Due.is("upper() before", x.upper(), 0);
        Due.is("lower() before", x.lower(), 1);
        x.book(1, 0, false);
        x.book(2, 2, false);
        Due.row(x, 0, 5, 6);
        x.lay(0, 0, 9);
        Due.is("by lay()", x.asked(), 5);
        x.mean(0);
        Due.is("by mean()", x.asked(), 7);
        x.told(1, 2);
        Due.is("by told()", x.asked(), 2);
        Due.slip(x, 6, 1);
        x.slipTold(0, 1);
        Due.is("by slipTold()", x.asked(), 6);
        x.lose(1);
        x.along(2);
        Due.is("by along()", x.asked(), 1);
        Due.row(x, 1, 1, 1, 1, 1, 1, 1, 1, 1);
        x.search(0, 1, 480);
        Due.is("by search()", x.asked(), 5);
        x.find(1);
        x.later(8);
        x.along(2);
        x.lose(1);
        x.along(2);
        x.gone(1);
        Due.is("by gone()", x.asked(), 8);
        x.gone(0);
        Due.is("not by NONE", x.asked(), 8);
        x.wrong();
        x.mark(0, 1);
        x.look(1, 0, 0);
        x.tear(0);
        x.mean(0);
        x.lay(0, 0, 0);
        x.told(9, 0);
        x.slipTold(9, 0);
        x.along(9);
        x.search(0, 0, 9);
        Due.is("not by what is refused", x.asked(), 8);
    }

    private static void counts() {
        ReadersRoom x = new ReadersRoom();
        Due.is("count(-1)", x.count(-1), ReadersRoom.BAD);
        Due.is("count(10)", x.count(10), ReadersRoom.BAD);
        x.book(1, 0, false);
        x.book(2, 2, false);
        Due.slip(x, 0, 1);
        Due.rule(x, "Q5", 0);
        Due.rule(x, "Q6", 0);
        Due.rule(x, "Q7", 0);
        for (int l = 0; l < 4; l++) {
            x.line(0, 0, 0, 0, ReadersRoom.NONE);
        }
        for (int k = 0; k < 5; k++) {
            x.along(2);
        }
        x.send(0, 0);
        x.later(11);
        for (int e = 0; e < 7; e++) {
            x.eye(0, 0);
        }
        for (int r = 0; r < 6; r++) {
            x.row(r, 0);
        }
        x.tear(3);
        int[] due = {11, 2, 1, 3, 4, 5, 1, 7, 5, 2};
        for (int what = 0; what < due.length; what++) {
            Due.is("count(" + what + ")", x.count(what), due[what]);
        }
    }

    private static void findings() {
        ReadersRoom x = new ReadersRoom();
        Due.is("finding() before", x.finding(), 0);
        Due.is("findings(0)", x.findings(0), ReadersRoom.BAD);
        Due.is("findings(6)", x.findings(6), ReadersRoom.BAD);
        Due.is("findings(-1)", x.findings(-1), ReadersRoom.BAD);
        x.row(0, 0);
        x.book(1, 1, true);
        for (int f = 1; f <= 5; f++) {
            for (int k = 0; k < f; k++) {
                find(x, f);
                Due.is("finding()", x.finding(), f);
            }
        }
        x.told(9, 9);
        x.keep(9);
        Due.is("finding() is the latest FINDING", x.finding(), 5);
        for (int f = 1; f <= 5; f++) {
            Due.is("findings(" + f + ")", x.findings(f), f);
        }
        find(x, 2);
        Due.is("finding()", x.finding(), 2);
        Due.is("findings(2)", x.findings(2), 3);
    }

    private static void find(ReadersRoom x, int f) {
        switch (f) {
            case 1: Due.is("NOTHING", x.mean(5), ReadersRoom.FINDING); break;
            case 2: Due.is("BEYOND", x.lay(0, 0, 0), ReadersRoom.FINDING); break;
            case 3: Due.is("UNLIKE", x.mark(0, 3), ReadersRoom.FINDING); break;
            case 4: Due.is("NOUGHT", x.mean(0), ReadersRoom.FINDING); break;
            default: Due.is("SIZE", x.row(0, -1), ReadersRoom.FINDING);
        }
    }

    private static final class Mix {
        long h = 17;

        Mix with(int... numbers) {
            for (int v : numbers) {
                h = 31 * h + v;
            }
            return this;
        }
    }

    private static void digests() {
        ReadersRoom x = new ReadersRoom();
        Mix fresh = new Mix().with(0, 0, 0, 0, 0, 0, 0, 0, 0, 0).with(1, 0, 1, 0, 1, 0)
            .with(-1, -1, -1, -1, -1, -1).with(-1, -1, -1, -1);
        Due.is("digest() of a new one", x.digest(), fresh.h);
        for (int b = 0; b < 7; b++) {
            x.book(10 + b, 0, b == 3);
        }
        x.book(99, 6, false);
        x.pace(2, 4);
        x.later(1);
        for (int b = 0; b < 3; b++) {
            Due.slip(x, b + 1, 10 + b);
            x.send(b, b);
        }
        x.later(4);
        x.keep(1);
        x.back(2, 7);
        x.bind(3, 50);
        x.lose(4);
        Due.slip(x, 4, 15);
        x.send(2, 3);
        Due.slip(x, 5, 16);
        Due.slip(x, 6, 13);
        x.later(2);
        Due.rule(x, "K7", 8);
        x.text(2, 1);
        x.put(2, 0, -3);
        x.line(0, 1, 2, -3, ReadersRoom.NONE);
        x.line(2, 4, 5, 6, 0);
        x.along(7);
        x.lose(2);
        x.later(1);
        x.along(0);
        x.eye(9, 10);
        Due.row(x, 1, -1, 5);
        Mix due = new Mix().with(8, 8, 6, 1, 2, 4, 3, 1, 1, 2);
        due.with(1, 10, 0, 0, 1, 1).with(2, 11, 0, 0, 1, 3).with(6, 12, 0, 0, 3, 7).with(3, 13, 0, 1, 2, 50);
        due.with(6, 14, 0, 0, 3, 5).with(5, 15, 0, 0, 1, 2).with(0, 16, 0, 0, 0, 0).with(0, 99, 6, 0, 0, 0);
        due.with(2, 1, 0, 1, 5).with(2, 2, 1, 1, 5).with(2, 3, 2, 1, 5);
        due.with(1, 4, 5, 5, ReadersRoom.NONE).with(0, 5, 6, 5, ReadersRoom.NONE).with(3, 6, 3, 5, 5);
        due.with(1, 5, 1, 5, 4, 9);
        due.with(0, 8);
        due.with(0, 1, 2, -3, ReadersRoom.NONE).with(2, 4, 5, 6, 0);
        due.with(2, 7, 1).with(2, 8, 0).with(4, 8, 0).with(6, 8, 1);
        due.with(0, 1, 5, ReadersRoom.NONE).with(1, 2, 5, ReadersRoom.NONE).with(2, 3, 5, 5);
        due.with(9, 10);
        due.with(-1).with(2, -1, 5).with(-1, -1, -1, -1);
        due.with(-1, -1).with(1, -3).with(2, 'K', '7');
        Due.is("digest()", x.digest(), due.h);
        Due.is("digest() again", x.digest(), due.h);
    }
}
