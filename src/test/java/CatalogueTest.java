/** Promises 37 to 39: LINES of the catalogue and MARKS of other AGES. */
public final class CatalogueTest {
    public static void main(String[] args) {
        refusedLines();
        turning();
        pasting();
        manyMarks();
        Due.end("CatalogueTest");
    }

    private static void refusedLines() {
        ReadersRoom x = new ReadersRoom();
        int none = ReadersRoom.NONE;
        int[][] bad = {{-1, 0, 9, 0, none}, {3, 0, 9, 0, none}, {0, -1, 9, 0, none}, {0, 0, 10000, 0, none},
            {0, 10000, 10000, 0, none}, {0, 5, 4, 0, none}, {0, 0, 9, 10000, none}, {0, 0, 9, -10000, none},
            {0, 0, 9, 0, 0}, {0, 0, 9, 0, -1}, {0, 0, 9, 0, -8}, {0, -5, -4, 0, none}};
        for (int[] l : bad) {
            Due.is("a bad line", x.line(l[0], l[1], l[2], l[3], l[4]), ReadersRoom.BAD);
        }
        Due.is("line", x.line(0, 0, 9999, 9999, none), 0);
        Due.is("line", x.line(2, 5, 5, -9999, none), 1);
        Due.is("over itself", x.line(2, 5, 5, 0, 2), ReadersRoom.BAD);
        Due.is("over one", x.line(1, 5, 5, 0, 1), 2);
        Due.is("over the same", x.line(1, 5, 5, 0, 1), ReadersRoom.STATE);
        Due.is("BAD ahead of STATE", x.line(3, 5, 5, 0, 1), ReadersRoom.BAD);
        for (int l = 3; l < 20; l++) {
            Due.is("line " + l, x.line(0, 0, 0, 0, none), l);
        }
        Due.is("the 21st", x.line(0, 0, 0, 0, none), ReadersRoom.FULL);
        Due.is("FULL ahead of STATE", x.line(0, 0, 0, 0, 1), ReadersRoom.FULL);
        Due.is("BAD ahead of FULL", x.line(0, 0, 0, 0, 20), ReadersRoom.BAD);
        Due.is("count(4)", x.count(4), 20);
    }

    private static void turning() {
        ReadersRoom x = new ReadersRoom();
        int none = ReadersRoom.NONE;
        x.later(3);
        Due.is("today(-1, 0, 0)", x.today(-1, 0, 0), ReadersRoom.BAD);
        Due.is("today(4, 0, 0)", x.today(4, 0, 0), ReadersRoom.BAD);
        Due.is("today(0, -1, 0)", x.today(0, -1, 0), ReadersRoom.BAD);
        Due.is("today(0, 10000, 0)", x.today(0, 10000, 0), ReadersRoom.BAD);
        Due.is("today(0, 0, -1)", x.today(0, 0, -1), ReadersRoom.BAD);
        Due.is("today(0, 0, 4)", x.today(0, 0, 4), ReadersRoom.BAD);
        Due.is("turned(-1, 0, 0, 0)", x.turned(-1, 0, 0, 0), ReadersRoom.BAD);
        Due.is("turned(4, 0, 0, 0)", x.turned(4, 0, 0, 0), ReadersRoom.BAD);
        Due.is("turned(0, -1, 0, 0)", x.turned(0, -1, 0, 0), ReadersRoom.BAD);
        Due.is("turned(0, 10000, 0, 0)", x.turned(0, 10000, 0, 0), ReadersRoom.BAD);
        Due.is("turned(0, 0, -1, 0)", x.turned(0, 0, -1, 0), ReadersRoom.BAD);
        Due.is("turned(0, 0, 4, 0)", x.turned(0, 0, 4, 0), ReadersRoom.BAD);
        Due.is("no LINES", x.today(2, 0, 3), 0);
        Due.is("of today", x.today(3, 9999, 0), 1);
        Due.is("of today", x.turned(3, 9999, 0, 0), 9999);
        Due.is("of today", x.turned(3, 9999, 0, 1), none);
        x.line(2, 10, 20, 5, none);
        x.line(2, 12, 18, -12, none);
        x.line(2, 12, 12, 5, none);
        x.line(1, 100, 199, -88, none);
        marks(x, 2, 9, 3);
        marks(x, 2, 10, 3, 15);
        marks(x, 2, 11, 3, 16);
        marks(x, 2, 12, 3, 0, 17);
        marks(x, 2, 18, 3, 6, 23);
        marks(x, 2, 20, 3, 25);
        marks(x, 2, 21, 3);
        marks(x, 1, 100, 3, 0, 17);
        marks(x, 1, 108, 3, 25);
        marks(x, 1, 109, 3);
        marks(x, 1, 99, 3);
        marks(x, 0, 100, 3);
        marks(x, 2, 12, 2);
        x.line(2, 9990, 9999, 5, none);
        x.line(2, 0, 9, -5, none);
        marks(x, 2, 9994, 3, 9999);
        marks(x, 2, 9995, 3);
        marks(x, 2, 5, 3, 0);
        Due.is("today(2, 12, 3)", x.today(2, 12, 3), 2);
        Due.is("turned() of another MARK", x.turned(2, 10, 3, 0), 15);
        Due.is("turned() of another minute", x.turned(2, 10, 2, 0), none);
        x.line(2, 5, 5, -5, none);
        marks(x, 2, 5, 3, 0);
        x.line(2, 300, 300, 1, none);
        x.line(2, 301, 301, 0, none);
        x.line(1, 300, 300, 0, none);
        x.line(1, 300, 300, 1, none);
        marks(x, 1, 300, 3, 301);
        marks(x, 2, 4, 3);
    }

    private static void marks(ReadersRoom x, int age, int mark, int known, int... want) {
        String of = "(" + age + ", " + mark + ", " + known + ")";
        Due.is("today" + of, x.today(age, mark, known), want.length);
        for (int i = 0; i < want.length; i++) {
            Due.is("turned" + of + " " + i, x.turned(age, mark, known, i), want[i]);
        }
        Due.is("turned" + of + " beyond", x.turned(age, mark, known, want.length), ReadersRoom.NONE);
        Due.is("turned" + of + " ahead", x.turned(age, mark, known, -1), ReadersRoom.NONE);
        Due.is("turned" + of + " most", x.turned(age, mark, known, Integer.MAX_VALUE), ReadersRoom.NONE);
    }

    private static void pasting() {
        ReadersRoom x = new ReadersRoom();
        int none = ReadersRoom.NONE;
        x.later(1);
        x.line(2, 0, 99, 1, none);
        x.later(1);
        x.line(2, 0, 99, 2, 0);
        x.later(1);
        x.line(2, 0, 99, 3, 1);
        x.line(2, 0, 99, 4, none);
        x.line(0, 0, 0, 0, 3);
        marks(x, 2, 7, 0);
        marks(x, 2, 7, 1, 8);
        marks(x, 2, 7, 2, 9);
        marks(x, 2, 7, 3, 10);
    }

    /** The most MARKS that twenty LINES lead to, all unlike. */
    private static void manyMarks() {
        ReadersRoom x = new ReadersRoom();
        for (int l = 0; l < 20; l++) {
            int age = l < 7 ? 0 : l < 14 ? 1 : 2;
            int shift = age == 0 ? 100 * l : age == 1 ? 10 * (l - 7) : l - 14;
            Due.is("line", x.line(age, 0, 9999, shift, ReadersRoom.NONE), l);
        }
        Due.is("today(0, 0, 0)", x.today(0, 0, 0), 294);
        Due.is("the least", x.turned(0, 0, 0, 0), 0);
        Due.is("the 43rd", x.turned(0, 0, 0, 42), 100);
        Due.is("the greatest", x.turned(0, 0, 0, 293), 665);
        Due.is("none beyond", x.turned(0, 0, 0, 294), ReadersRoom.NONE);
    }
}
