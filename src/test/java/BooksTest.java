/** Promises 9 to 18: minutes, and BOOKS at their PLACES. */
public final class BooksTest {
    public static void main(String[] args) {
        minutes();
        making();
        telling();
        seatAndKept();
        keptTillADay();
        givingBack();
        binding();
        losing();
        arrivals();
        Due.end("BooksTest");
    }

    private static void minutes() {
        ReadersRoom x = new ReadersRoom();
        Due.is("later(-1)", x.later(-1), ReadersRoom.BAD);
        Due.is("later(least)", x.later(Integer.MIN_VALUE), ReadersRoom.BAD);
        Due.is("later(most)", x.later(Integer.MAX_VALUE), ReadersRoom.BAD);
        Due.is("later(5)", x.later(5), 5);
        Due.is("later(0)", x.later(0), 5);
        Due.is("later(99995)", x.later(99995), ReadersRoom.BAD);
        Due.is("later(most) from 5", x.later(Integer.MAX_VALUE), ReadersRoom.BAD);
        Due.is("later(99994)", x.later(99994), 99999);
        Due.is("later(1)", x.later(1), ReadersRoom.BAD);
        Due.is("later(0)", x.later(0), 99999);
        Due.is("count(0)", x.count(0), 99999);
    }

    private static void making() {
        ReadersRoom x = new ReadersRoom();
        Due.is("book(-1, 0, false)", x.book(-1, 0, false), ReadersRoom.BAD);
        Due.is("book(10000, 0, false)", x.book(10000, 0, false), ReadersRoom.BAD);
        Due.is("book(0, -1, false)", x.book(0, -1, false), ReadersRoom.BAD);
        Due.is("book(0, 8, false)", x.book(0, 8, false), ReadersRoom.BAD);
        Due.is("book(0, 0, true)", x.book(0, 0, true), 0);
        Due.finds("book of a mark that there is", x.book(0, 7, false), x, 3);
        Due.is("BAD ahead of UNLIKE", x.book(0, 8, false), ReadersRoom.BAD);
        for (int b = 1; b < 24; b++) {
            Due.is("book " + b, x.book(10000 - b, 7, false), b);
        }
        Due.is("the 25th", x.book(5, 0, false), ReadersRoom.FULL);
        Due.is("FULL ahead of UNLIKE", x.book(0, 0, false), ReadersRoom.FULL);
        Due.is("BAD ahead of FULL", x.book(-1, 0, false), ReadersRoom.BAD);
        Due.is("count(1)", x.count(1), 24);
        Due.is("findings(3)", x.findings(3), 1);
    }

    private static void telling() {
        ReadersRoom x = new ReadersRoom();
        x.book(1234, 5, true);
        x.book(4321, 6, false);
        int[][] due = {{0, 1234, 5, 1, 0}, {0, 4321, 6, 0, 0}};
        for (int b = 0; b < 2; b++) {
            for (int what = 0; what <= 4; what++) {
                Due.is("told(" + b + ", " + what + ")", Due.told(x, b, what), due[b][what]);
            }
        }
        Due.is("told(2, 0)", x.told(2, 0), ReadersRoom.BAD);
        Due.is("told(-1, 0)", x.told(-1, 0), ReadersRoom.BAD);
        Due.is("told(0, 5)", x.told(0, 5), ReadersRoom.BAD);
        Due.is("told(0, -1)", x.told(0, -1), ReadersRoom.BAD);
        Due.is("asked() of the last that was not refused", x.asked(), 0);
        for (int kind = 1; kind <= 6; kind++) {
            Due.finds("mark(0, " + kind + ")", x.mark(0, kind), x, 3);
        }
        Due.is("mark(0, 0)", x.mark(0, 0), ReadersRoom.BAD);
        Due.is("mark(0, 7)", x.mark(0, 7), ReadersRoom.BAD);
        Due.is("mark(0, -1)", x.mark(0, -1), ReadersRoom.BAD);
        Due.is("mark(2, 1)", x.mark(2, 1), ReadersRoom.BAD);
    }

    /** Book 0 of mark 7 with reader 3, its only book, at NOW. */
    private static ReadersRoom seated(int shelf) {
        ReadersRoom x = new ReadersRoom();
        x.book(7, shelf, false);
        Due.slip(x, 3, 7);
        x.send(1, 0);
        x.later(x.free(1));
        return x;
    }

    private static void seatAndKept() {
        ReadersRoom x = new ReadersRoom();
        x.book(7, 2, false);
        x.book(8, 0, false);
        Due.slip(x, 3, 7);
        Due.is("send(1, 0)", x.send(1, 0), 1);
        Due.is("KIND of one GOING", Due.told(x, 0, 0), 5);
        Due.is("BELIEVED of one GOING", Due.told(x, 0, 4), 1);
        Due.is("mark(0, 5)", x.mark(0, 5), 1);
        Due.finds("mark(0, 1) of one GOING", x.mark(0, 1), x, 3);
        Due.is("keep of one GOING", x.keep(0), ReadersRoom.STATE);
        Due.is("back of one GOING", x.back(0, 2), ReadersRoom.STATE);
        Due.is("lose of one GOING", x.lose(0), ReadersRoom.STATE);
        Due.is("bind of one GOING", x.bind(0, 99), ReadersRoom.STATE);
        Due.is("find of one GOING", x.find(0), ReadersRoom.STATE);
        Due.is("has(3) while it is GOING", x.has(3), 0);
        x.later(5);
        Due.is("a minute ahead it is GOING", Due.told(x, 0, 0), 5);
        x.later(1);
        Due.is("KIND at the SEAT", Due.told(x, 0, 0), 1);
        Due.is("BELIEVED at the SEAT", Due.told(x, 0, 4), 1);
        Due.is("mark(0, 1)", x.mark(0, 1), 3);
        Due.finds("mark(0, 2) at the SEAT", x.mark(0, 2), x, 3);
        Due.finds("mark(0, 5) at the SEAT", x.mark(0, 5), x, 3);
        Due.is("has(3)", x.has(3), 1);
        Due.is("has(2)", x.has(2), 0);
        Due.is("has(-1)", x.has(-1), ReadersRoom.BAD);
        Due.is("has(8)", x.has(8), ReadersRoom.BAD);
        Due.is("bind of one at a SEAT", x.bind(0, 99), ReadersRoom.STATE);
        Due.is("find of one at a SEAT", x.find(0), ReadersRoom.STATE);
        Due.is("keep(2)", x.keep(2), ReadersRoom.BAD);
        Due.is("keep(-1)", x.keep(-1), ReadersRoom.BAD);
        Due.is("keep of one on its SHELF", x.keep(1), ReadersRoom.STATE);
        Due.is("keep(0)", x.keep(0), 3);
        Due.is("KIND KEPT", Due.told(x, 0, 0), 2);
        Due.is("BELIEVED KEPT", Due.told(x, 0, 4), 1);
        Due.is("mark(0, 1) KEPT", x.mark(0, 1), 3);
        Due.is("mark(0, 2) KEPT", x.mark(0, 2), 3);
        Due.is("has(3) KEPT", x.has(3), 1);
        Due.is("keep again", x.keep(0), ReadersRoom.STATE);
        Due.is("bind of one KEPT", x.bind(0, 99), ReadersRoom.STATE);
    }

    private static void keptTillADay() {
        ReadersRoom x = seated(2);
        Due.is("rule", Due.rule(x, "K2", 0), 0);
        Due.is("keep(0)", x.keep(0), 2);
        x.later(3 * 1440 - 1 - x.count(0));
        Due.is("still KEPT on its last DAY", Due.told(x, 0, 0), 2);
        x.later(1);
        Due.is("on its SHELF on the next DAY", Due.told(x, 0, 0), 0);
        Due.is("BELIEVED there", Due.told(x, 0, 4), 0);
        Due.is("has(3)", x.has(3), 0);
        ReadersRoom y = seated(2);
        y.later(99999 - y.count(0));
        Due.is("rule", Due.rule(y, "K99", 0), 0);
        Due.is("keep beyond all DAYS", y.keep(0), 69 + 99);
        Due.is("mark(0, 2)", y.mark(0, 2), 168);
    }

    private static void givingBack() {
        ReadersRoom x = seated(2);
        Due.is("back(1, 0)", x.back(1, 0), ReadersRoom.BAD);
        Due.is("back(0, 8)", x.back(0, 8), ReadersRoom.BAD);
        Due.is("back(0, -1)", x.back(0, -1), ReadersRoom.BAD);
        Due.is("back(0, 2)", x.back(0, 2), 1);
        Due.is("KIND", Due.told(x, 0, 0), 0);
        Due.is("BELIEVED", Due.told(x, 0, 4), 0);
        Due.is("back again", x.back(0, 2), ReadersRoom.STATE);
        Due.is("BAD ahead of STATE", x.back(0, 8), ReadersRoom.BAD);
        ReadersRoom y = seated(2);
        y.keep(0);
        Due.is("back of one KEPT to a wrong SHELF", y.back(0, 3), 0);
        Due.is("KIND", Due.told(y, 0, 0), 4);
        Due.is("BELIEVED there, though WRONG", Due.told(y, 0, 4), 0);
        Due.is("mark(0, 4)", y.mark(0, 4), 3);
        Due.finds("mark(0, 1)", y.mark(0, 1), y, 3);
        Due.is("back of one that is WRONG", y.back(0, 2), ReadersRoom.STATE);
        Due.is("keep of one that is WRONG", y.keep(0), ReadersRoom.STATE);
        Due.is("bind of one that is WRONG", y.bind(0, 99), ReadersRoom.STATE);
        Due.is("find of one that is WRONG", y.find(0), ReadersRoom.STATE);
        Due.is("has(3)", y.has(3), 0);
        y.later(5000);
        Due.is("it is WRONG still", Due.told(y, 0, 0), 4);
    }

    private static void binding() {
        ReadersRoom x = new ReadersRoom();
        x.book(7, 2, false);
        x.later(10);
        Due.is("bind(1, 20)", x.bind(1, 20), ReadersRoom.BAD);
        Due.is("bind(-1, 20)", x.bind(-1, 20), ReadersRoom.BAD);
        Due.is("bind(0, 10)", x.bind(0, 10), ReadersRoom.BAD);
        Due.is("bind(0, 100000)", x.bind(0, 100000), ReadersRoom.BAD);
        Due.is("bind(0, 12)", x.bind(0, 12), 1);
        Due.is("KIND", Due.told(x, 0, 0), 3);
        Due.is("BELIEVED", Due.told(x, 0, 4), 2);
        Due.is("mark(0, 3)", x.mark(0, 3), 12);
        Due.is("bind again", x.bind(0, 14), ReadersRoom.STATE);
        Due.is("BAD ahead of STATE", x.bind(0, 9), ReadersRoom.BAD);
        Due.is("lose of one at the BINDER", x.lose(0), ReadersRoom.STATE);
        Due.is("back of one at the BINDER", x.back(0, 2), ReadersRoom.STATE);
        x.later(1);
        Due.is("still there", Due.told(x, 0, 0), 3);
        x.later(1);
        Due.is("on its SHELF", Due.told(x, 0, 0), 0);
        Due.is("BELIEVED", Due.told(x, 0, 4), 0);
        Due.is("bind(0, 99999)", x.bind(0, 99999), 1);
        Due.is("mark(0, 3)", x.mark(0, 3), 99999);
    }

    private static void losing() {
        ReadersRoom x = new ReadersRoom();
        x.book(7, 2, false);
        x.later(10);
        Due.is("lose(1)", x.lose(1), ReadersRoom.BAD);
        Due.is("find(1)", x.find(1), ReadersRoom.BAD);
        Due.is("find of one that is there", x.find(0), ReadersRoom.STATE);
        Due.is("lose(0)", x.lose(0), 1);
        Due.is("KIND", Due.told(x, 0, 0), 6);
        Due.is("BELIEVED stays", Due.told(x, 0, 4), 0);
        Due.is("mark(0, 6)", x.mark(0, 6), 10);
        Due.is("lose again", x.lose(0), ReadersRoom.STATE);
        Due.is("bind of a LOST one", x.bind(0, 99), ReadersRoom.STATE);
        x.later(33);
        Due.is("find(0)", x.find(0), 33);
        Due.is("KIND", Due.told(x, 0, 0), 0);
        Due.is("find again", x.find(0), ReadersRoom.STATE);
        ReadersRoom y = seated(2);
        Due.is("lose at the SEAT", y.lose(0), 1);
        Due.is("BELIEVED stays", Due.told(y, 0, 4), 1);
        Due.is("has(3)", y.has(3), 0);
        Due.is("find(0)", y.find(0), 0);
        Due.is("BELIEVED there", Due.told(y, 0, 4), 0);
        ReadersRoom z = seated(2);
        z.keep(0);
        Due.is("lose of one KEPT", z.lose(0), 1);
        Due.is("mark(0, 6)", z.mark(0, 6), z.count(0));
        z.later(9999);
        Due.is("it is LOST still", Due.told(z, 0, 0), 6);
        ReadersRoom w = seated(2);
        w.back(0, 5);
        Due.is("lose of one that is WRONG", w.lose(0), 1);
        Due.is("BELIEVED stays", Due.told(w, 0, 4), 0);
        w.along(2);
        Due.is("MISSING is BELIEVED", Due.told(w, 0, 4), 3);
        Due.is("find(0)", w.find(0), 0);
        Due.is("BELIEVED there", Due.told(w, 0, 4), 0);
    }

    /** HAD is told BOOK by BOOK, from the minute of the SEAT on; the digest has them in that order. */
    private static void arrivals() {
        ReadersRoom x = new ReadersRoom();
        x.book(7, 6, false);
        x.book(8, 0, false);
        Due.slip(x, 1, 7);
        Due.slip(x, 2, 8);
        x.send(0, 0);
        x.send(1, 1);
        x.later(100);
        Due.is("slip 0 DONE at", Due.slipTold(x, 0, 4), 10);
        Due.is("slip 1 DONE at", Due.slipTold(x, 1, 4), 4);
        Due.is("count(6)", x.count(6), 2);
        x.back(1, 0);
        x.lose(0);
        long h = 17;
        int[] had = {0, 1, 10, 100, 1, 2, 4, 100};
        int[] ahead = {100, 2, 2, 0, 0, 0, 2, 0, 0, 1,
            6, 7, 6, 0, 1, 100, 0, 8, 0, 0, 0, 0,
            2, 1, 0, 0, 10, 2, 2, 1, 0, 4,
            1, 10, 1, 4, 1, 0};
        for (int v : ahead) {
            h = 31 * h + v;
        }
        for (int v : had) {
            h = 31 * h + v;
        }
        int[] behind = {-1, -1, -1, -1, -1, -1, -1, -1, 1, '8', -1};
        for (int v : behind) {
            h = 31 * h + v;
        }
        Due.is("digest()", x.digest(), h);
    }
}
