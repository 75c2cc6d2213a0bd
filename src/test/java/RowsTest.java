/** Promises 1 to 8: a new object, ROWS and TEXTS. */
public final class RowsTest {
    public static void main(String[] args) {
        newObject();
        rows();
        laying();
        tearing();
        copying();
        means();
        texts();
        putting();
        Due.end("RowsTest");
    }

    private static void newObject() {
        ReadersRoom x = new ReadersRoom();
        for (int what = 0; what <= 9; what++) {
            Due.is("new: count(" + what + ")", x.count(what), 0);
        }
        for (int f = 0; f < 3; f++) {
            Due.is("new: free", x.free(f), 0);
            Due.is("new: pace", x.pace(f, 1), 1);
        }
        for (int r = 0; r < 6; r++) {
            Due.finds("new: tear(" + r + ")", x.tear(r), x, 1);
        }
        for (int t = 0; t < 4; t++) {
            Due.finds("new: fault(" + t + ")", x.fault(t), x, 1);
        }
        Due.is("new: told", x.told(0, 0), ReadersRoom.BAD);
        Due.is("new: slipTold", x.slipTold(0, 0), ReadersRoom.BAD);
        Due.is("new: why", x.why(0, 0, 0), ReadersRoom.NONE);
        Due.is("new: later(0)", x.later(0), 0);
    }

    private static void rows() {
        ReadersRoom x = new ReadersRoom();
        Due.is("row(0, 0)", x.row(0, 0), 0);
        Due.is("row(5, 40)", x.row(5, 40), 40);
        Due.is("count(8)", x.count(8), 2);
        Due.is("row(5, 41)", x.row(5, 41), ReadersRoom.BAD);
        Due.is("row(-1, 4)", x.row(-1, 4), ReadersRoom.BAD);
        Due.is("row(6, 4)", x.row(6, 4), ReadersRoom.BAD);
        Due.is("row(6, -1)", x.row(6, -1), ReadersRoom.BAD);
        Due.is("finding()", x.finding(), 0);
        Due.finds("row(1, -1)", x.row(1, -1), x, 5);
        Due.finds("row(1, least)", x.row(1, Integer.MIN_VALUE), x, 5);
        Due.is("row(1, most)", x.row(1, Integer.MAX_VALUE), ReadersRoom.BAD);
        Due.is("lay(5, 39, 7)", x.lay(5, 39, 7), 1);
        Due.is("row(5, 40) again", x.row(5, 40), 40);
        Due.is("lay(5, 39, 1)", x.lay(5, 39, 1), 1);
        Due.is("a row made again is 0", x.asked(), 0);
        Due.is("count(8)", x.count(8), 2);
    }

    private static void laying() {
        ReadersRoom x = new ReadersRoom();
        Due.is("lay(6, 0, 1)", x.lay(6, 0, 1), ReadersRoom.BAD);
        Due.is("lay(-1, 0, 1)", x.lay(-1, 0, 1), ReadersRoom.BAD);
        Due.finds("lay of a missing row", x.lay(0, -1, 1), x, 1);
        x.row(0, 2);
        Due.finds("lay(0, 2, 1)", x.lay(0, 2, 1), x, 2);
        Due.finds("lay(0, -1, 1)", x.lay(0, -1, 1), x, 2);
        Due.finds("lay(0, most, 1)", x.lay(0, Integer.MAX_VALUE, 1), x, 2);
        Due.is("lay(0, 1, least)", x.lay(0, 1, Integer.MIN_VALUE), 1);
        Due.is("asked()", x.asked(), 0);
        Due.is("lay(0, 1, 3)", x.lay(0, 1, 3), 1);
        Due.is("asked()", x.asked(), Integer.MIN_VALUE);
        Due.is("lay(0, 0, 3)", x.lay(0, 0, 3), 1);
        Due.is("asked()", x.asked(), 0);
        x.row(1, 0);
        Due.finds("lay in an empty row", x.lay(1, 0, 1), x, 2);
    }

    private static void tearing() {
        ReadersRoom x = new ReadersRoom();
        x.row(3, 1);
        Due.is("tear(6)", x.tear(6), ReadersRoom.BAD);
        Due.is("tear(-1)", x.tear(-1), ReadersRoom.BAD);
        Due.finds("tear(2)", x.tear(2), x, 1);
        Due.is("tear(3)", x.tear(3), 1);
        Due.is("count(8)", x.count(8), 0);
        Due.finds("tear(3) again", x.tear(3), x, 1);
        Due.finds("lay(3, 0, 0)", x.lay(3, 0, 0), x, 1);
    }

    private static void copying() {
        ReadersRoom x = new ReadersRoom();
        Due.row(x, 0, 1, 2, 3, 4, 5);
        Due.row(x, 1, 10, 20, 30);
        Due.is("copy(0, 1, 1, 0, 3)", x.copy(0, 1, 1, 0, 3), 1);
        holds(x, 1, 2, 3, 4);
        holds(x, 0, 1, 2, 3, 4, 5);
        Due.is("copy onto itself, up", x.copy(0, 0, 0, 1, 4), 1);
        holds(x, 0, 1, 1, 2, 3, 4);
        Due.is("copy onto itself, down", x.copy(0, 1, 0, 0, 4), 1);
        holds(x, 0, 1, 2, 3, 4, 4);
        Due.is("copy of none at the end", x.copy(0, 5, 1, 3, 0), 1);
        Due.finds("copy of none beyond the end", x.copy(0, 6, 1, 0, 0), x, 2);
        Due.finds("copy of none to beyond the end", x.copy(0, 0, 1, 4, 0), x, 2);
        Due.finds("copy(0, -1, 1, 0, 1)", x.copy(0, -1, 1, 0, 1), x, 2);
        Due.finds("copy(0, 0, 1, -1, 1)", x.copy(0, 0, 1, -1, 1), x, 2);
        Due.finds("copy(0, 3, 1, 0, 3)", x.copy(0, 3, 1, 0, 3), x, 2);
        Due.finds("copy(0, 0, 1, 1, 3)", x.copy(0, 0, 1, 1, 3), x, 2);
        Due.finds("copy of most", x.copy(0, 1, 1, 0, Integer.MAX_VALUE), x, 2);
        Due.finds("copy from most on", x.copy(0, Integer.MAX_VALUE, 1, 0, 1), x, 2);
        Due.finds("copy to most on", x.copy(0, 0, 1, Integer.MAX_VALUE, 1), x, 2);
        Due.finds("copy(0, 0, 1, 0, -1)", x.copy(0, 0, 1, 0, -1), x, 5);
        Due.finds("SIZE ahead of NOTHING", x.copy(4, 0, 5, 0, -1), x, 5);
        Due.finds("NOTHING ahead of BEYOND", x.copy(0, 99, 5, 0, 1), x, 1);
        Due.finds("copy from a missing one", x.copy(5, 0, 0, 0, 1), x, 1);
        Due.is("BAD ahead of SIZE", x.copy(6, 0, 1, 0, -1), ReadersRoom.BAD);
        Due.is("copy to none such", x.copy(0, 0, -1, 0, 1), ReadersRoom.BAD);
        holds(x, 0, 1, 2, 3, 4, 4);
        holds(x, 1, 2, 3, 4);
    }

    private static void holds(ReadersRoom x, int r, int... numbers) {
        for (int i = 0; i < numbers.length; i++) {
            x.lay(r, i, numbers[i]);
            Due.is("place " + i + " of row " + r, x.asked(), numbers[i]);
        }
    }

    private static void means() {
        ReadersRoom x = new ReadersRoom();
        Due.is("mean(6)", x.mean(6), ReadersRoom.BAD);
        Due.is("mean(-1)", x.mean(-1), ReadersRoom.BAD);
        Due.finds("mean of a missing one", x.mean(0), x, 1);
        x.row(0, 0);
        Due.finds("mean of none", x.mean(0), x, 4);
        Due.row(x, 1, 7, 8);
        Due.is("mean(1)", x.mean(1), 1);
        Due.is("asked()", x.asked(), 7);
        Due.row(x, 1, -7, -8);
        Due.is("mean(1)", x.mean(1), 1);
        Due.is("a mean below 0 is cut to 0", x.asked(), -7);
        Due.row(x, 2, Integer.MAX_VALUE, Integer.MAX_VALUE, Integer.MAX_VALUE);
        Due.is("mean(2)", x.mean(2), 1);
        Due.is("a mean of great ones", x.asked(), Integer.MAX_VALUE);
        Due.row(x, 2, Integer.MIN_VALUE, Integer.MIN_VALUE);
        Due.is("mean(2)", x.mean(2), 1);
        Due.is("a mean of least ones", x.asked(), Integer.MIN_VALUE);
    }

    private static void texts() {
        ReadersRoom x = new ReadersRoom();
        Due.is("text(0, 0)", x.text(0, 0), 0);
        Due.is("text(3, 40)", x.text(3, 40), 40);
        Due.is("count(9)", x.count(9), 2);
        Due.is("text(3, 41)", x.text(3, 41), ReadersRoom.BAD);
        Due.is("text(4, 1)", x.text(4, 1), ReadersRoom.BAD);
        Due.is("text(-1, -1)", x.text(-1, -1), ReadersRoom.BAD);
        Due.finds("text(1, -1)", x.text(1, -1), x, 5);
        Due.is("put(3, 39, 5)", x.put(3, 39, 5), 1032);
        Due.is("text(3, 40) again", x.text(3, 40), 40);
        Due.is("a text made again is blank", x.put(3, 39, 5), 1032);
        Due.is("count(9)", x.count(9), 2);
    }

    private static void putting() {
        ReadersRoom x = new ReadersRoom();
        Due.is("put(4, 0, 1)", x.put(4, 0, 1), ReadersRoom.BAD);
        Due.is("put(-1, 0, 1)", x.put(-1, 0, 1), ReadersRoom.BAD);
        Due.finds("put into a missing one", x.put(0, 9, 1), x, 1);
        x.text(0, 3);
        Due.finds("put(0, 3, 1)", x.put(0, 3, 1), x, 2);
        Due.finds("put(0, -1, 1)", x.put(0, -1, 1), x, 2);
        Due.is("put(0, 2, 127)", x.put(0, 2, 127), 1032);
        Due.is("put(0, 2, 128)", x.put(0, 2, 128), 1127);
        Due.is("put(0, 2, 255)", x.put(0, 2, 255), 872);
        Due.is("put(0, 2, 256)", x.put(0, 2, 256), 999);
        Due.is("put(0, 2, most)", x.put(0, 2, Integer.MAX_VALUE), 1000);
        Due.is("put(0, 2, 0)", x.put(0, 2, 0), 999);
    }
}
