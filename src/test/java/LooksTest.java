/** Promises 40 to 44: LOOKS, where a BOOK may stand, SEARCHES, how many stand wrong. */
public final class LooksTest {
    public static void main(String[] args) {
        lookingAlong();
        looksEnd();
        likelyNeighbours();
        likelyFigures();
        likelyReaders();
        searches();
        wrongInAll();
        Due.end("LooksTest");
    }

    /** Brings a BOOK to a READER and lets him put it on a SHELF. */
    private static void misplace(ReadersRoom x, int reader, int mark, int b, int shelf) {
        int s = Due.slip(x, reader, mark);
        x.send(0, s);
        x.later(x.takes(0, s));
        x.back(b, shelf);
    }

    private static void lookingAlong() {
        ReadersRoom x = new ReadersRoom();
        x.book(1, 2, false);
        x.book(2, 2, false);
        x.book(3, 5, false);
        x.book(4, 2, false);
        x.book(5, 2, false);
        x.book(6, 2, false);
        Due.is("along(-1)", x.along(-1), ReadersRoom.BAD);
        Due.is("along(8)", x.along(8), ReadersRoom.BAD);
        misplace(x, 0, 1, 0, 5);
        misplace(x, 0, 3, 2, 2);
        x.lose(3);
        x.bind(4, 5000);
        int s = Due.slip(x, 1, 6);
        x.send(1, s);
        int at = x.count(0);
        Due.is("along(2)", x.along(2), 1);
        Due.is("absent", x.asked(), 2);
        Due.is("count(5)", x.count(5), 4);
        int[] present = {0, 1, 1, 0};
        for (int b = 0; b < 4; b++) {
            Due.is("its minute", x.look(b, 0, 0), at);
            Due.is("whether present", x.look(b, 0, 1), present[b]);
            Due.is("no other", x.look(b, 1, 0), ReadersRoom.NONE);
            Due.is("none ahead", x.look(b, -1, 0), ReadersRoom.NONE);
        }
        Due.is("no LOOK at one at the BINDER", x.look(4, 0, 0), ReadersRoom.NONE);
        Due.is("no LOOK at one GOING", x.look(5, 0, 0), ReadersRoom.NONE);
        Due.is("BELIEVED MISSING", Due.told(x, 0, 4), 3);
        Due.is("it is WRONG still", Due.told(x, 0, 0), 4);
        Due.is("the other is home", Due.told(x, 2, 0), 0);
        Due.is("BELIEVED MISSING", Due.told(x, 3, 4), 3);
        Due.is("BELIEVED at the BINDER", Due.told(x, 4, 4), 2);
        Due.is("BELIEVED with a READER", Due.told(x, 5, 4), 1);
        Due.is("along(2) again", x.along(2), 0);
        Due.is("MISSING ones are not absent again", x.asked(), 0);
        Due.is("along(5)", x.along(5), 1);
        Due.is("it comes home", Due.told(x, 0, 0), 0);
        Due.is("BELIEVED there", Due.told(x, 0, 4), 0);
        Due.is("look(0, 1, 1)", x.look(0, 1, 1), 1);
        Due.is("look(6, 0, 0)", x.look(6, 0, 0), ReadersRoom.BAD);
        Due.is("look(-1, 0, 0)", x.look(-1, 0, 0), ReadersRoom.BAD);
        Due.is("look(0, 0, 2)", x.look(0, 0, 2), ReadersRoom.BAD);
        Due.is("look(0, 0, -1)", x.look(0, 0, -1), ReadersRoom.BAD);
        Due.is("BAD ahead of NONE", x.look(0, 9, 2), ReadersRoom.BAD);
    }

    private static void looksEnd() {
        ReadersRoom x = new ReadersRoom();
        for (int b = 0; b < 3; b++) {
            x.book(b, 4, false);
        }
        for (int k = 0; k < 13; k++) {
            x.along(4);
        }
        Due.is("count(5)", x.count(5), 39);
        x.lose(1);
        Due.is("along(4)", x.along(4), 0);
        Due.is("it is absent", x.asked(), 1);
        Due.is("MISSING is BELIEVED, though no LOOK tells it", Due.told(x, 1, 4), 3);
        Due.is("count(5)", x.count(5), 40);
        Due.is("the last LOOK", x.look(0, 13, 1), 1);
        Due.is("no LOOK beyond", x.look(1, 13, 1), ReadersRoom.NONE);
        Due.is("gone needs a LOOK", x.gone(1), ReadersRoom.NONE);
        Due.is("all that were present are seen", x.wrong(), 41);
    }

    private static void likelyNeighbours() {
        ReadersRoom x = new ReadersRoom();
        x.book(5000, 2, false);
        Due.is("likely(-1, 0)", x.likely(-1, 0), ReadersRoom.BAD);
        Due.is("likely(1, 0)", x.likely(1, 0), ReadersRoom.BAD);
        Due.is("likely(0, -1)", x.likely(0, -1), ReadersRoom.BAD);
        Due.is("likely(0, 8)", x.likely(0, 8), ReadersRoom.BAD);
        Due.is("alone", x.likely(0, 0), 0);
        Due.is("on its FLOOR", x.likely(0, 3), 1);
        Due.is("its own SHELF", x.likely(0, 2), 0);
        x.book(7777, 6, false);
        x.book(3333, 6, false);
        Due.is("both neighbours", x.likely(0, 6), 8);
        x.book(6666, 3, false);
        Due.is("a nearer one", x.likely(0, 6), 4);
        Due.is("a nearer one", x.likely(0, 3), 5);
        x.book(4444, 2, false);
        Due.is("one on its own SHELF", x.likely(0, 6), 0);
        Due.is("its own SHELF", x.likely(0, 2), 0);
        Due.is("of the greatest", x.likely(1, 3), 4);
        Due.is("of the greatest", x.likely(1, 7), 1);
        Due.is("of the least", x.likely(2, 2), 4);
    }

    private static void likelyFigures() {
        ReadersRoom x = new ReadersRoom();
        x.book(1223, 0, false);
        x.book(2123, 6, false);
        x.book(1232, 6, false);
        x.book(3221, 6, false);
        x.book(1322, 6, false);
        x.book(1222, 3, false);
        x.book(1224, 3, false);
        Due.is("two by changing", x.likely(0, 6), 6);
        Due.is("neighbours alone", x.likely(0, 3), 8);
        Due.is("the other way", x.likely(1, 0), 3);
        ReadersRoom y = new ReadersRoom();
        y.book(12, 0, false);
        y.book(102, 6, false);
        y.book(21, 7, false);
        y.book(5, 4, false);
        y.book(15, 5, false);
        y.book(50, 4, false);
        y.book(1020, 4, false);
        Due.is("0012 and 0102", y.likely(0, 6), 3);
        Due.is("0012 and 0021", y.likely(0, 7), 3);
        Due.is("0005 and 0050, and the next one", y.likely(0, 4), 4);
        Due.is("0102 and 1002 or 0120", y.likely(1, 4), 8);
        Due.is("0005 and 0050", y.likely(3, 4), 0);
        Due.is("0050 and 0005", y.likely(5, 7), 4);
        ReadersRoom z = new ReadersRoom();
        z.book(100, 0, false);
        z.book(1000, 7, false);
        z.book(10, 6, false);
        z.book(500, 2, false);
        z.book(50, 2, false);
        Due.is("0100 and 1000", z.likely(0, 7), 3);
        Due.is("0100 and 0010", z.likely(0, 6), 3);
        Due.is("1000 and 0100", z.likely(1, 0), 3);
    }

    private static void likelyReaders() {
        ReadersRoom x = new ReadersRoom();
        x.book(1000, 0, false);
        x.book(3000, 2, false);
        x.book(5000, 4, false);
        x.book(7000, 4, false);
        x.book(9000, 6, false);
        misplace(x, 1, 9000, 4, 6);
        misplace(x, 2, 5000, 2, 4);
        misplace(x, 2, 7000, 3, 4);
        misplace(x, 2, 7000, 3, 4);
        misplace(x, 2, 1000, 0, 0);
        Due.is("what the last READER HAD, each once", x.likely(0, 4), 4);
        Due.is("what he had not", x.likely(0, 6), 0);
        misplace(x, 1, 1000, 0, 0);
        Due.is("another READER had it last", x.likely(0, 4), 0);
        Due.is("what he HAD", x.likely(0, 6), 2);
        Due.is("nobody HAD it", x.likely(1, 6), 0);
        int s = Due.slip(x, 2, 9000);
        x.send(0, s);
        x.later(50);
        Due.is("who has it is the last", x.likely(4, 0), 2);
        Due.is("who has it is the last", x.likely(4, 4), 4 + 4);
    }

    private static void searches() {
        ReadersRoom x = new ReadersRoom();
        x.book(5000, 0, false);
        x.book(6000, 6, false);
        x.book(4000, 4, false);
        Due.row(x, 0, 5, 5, 5, 5, 5, 5, 5, 5);
        Due.is("search(3, 0, 9)", x.search(3, 0, 9), ReadersRoom.BAD);
        Due.is("search(-1, 0, 9)", x.search(-1, 0, 9), ReadersRoom.BAD);
        Due.is("search(0, 6, 9)", x.search(0, 6, 9), ReadersRoom.BAD);
        Due.is("search(0, -1, 9)", x.search(0, -1, 9), ReadersRoom.BAD);
        Due.is("search(0, 0, -1)", x.search(0, 0, -1), ReadersRoom.BAD);
        Due.is("search(0, 0, 481)", x.search(0, 0, 481), ReadersRoom.BAD);
        Due.finds("a missing ROW", x.search(0, 1, 9), x, 1);
        Due.row(x, 1, 1, 1, 1, 1, 1, 1, 0);
        Due.finds("seven", x.search(0, 1, 9), x, 5);
        Due.row(x, 1, 1, 1, 1, 1, 1, 1, 1, 1, 1);
        Due.finds("nine", x.search(0, 1, 9), x, 5);
        Due.row(x, 1, 1, 1, 1, 1, 1, 1, 1, 0);
        Due.finds("minute 0", x.search(0, 1, 9), x, 3);
        Due.row(x, 1, 61, 1, 1, 1, 1, 1, 1, 1);
        Due.finds("minute 61", x.search(0, 1, 9), x, 3);
        Due.row(x, 1, 60, 60, 60, 60, 60, 60, 60, 60);
        Due.is("all minutes", x.search(0, 1, 480), 2 + 16 + 64);
        Due.is("asked()", x.asked(), 9);
        Due.is("a minute less than three take", x.search(0, 1, 179), 16 + 64);
        Due.is("a minute less than one takes", x.search(0, 1, 59), 0);
        Due.is("asked()", x.asked(), 0);
        Due.is("the least bits of alike ones", x.search(0, 0, 5), 16);
        Due.is("asked()", x.asked(), 4);
        Due.row(x, 0, 5, 5, 5, 5, 5, 5, 4, 5);
        Due.is("the fewest minutes of alike ones", x.search(0, 0, 5), 64);
        Due.is("search in no minutes", x.search(0, 0, 0), 0);
        Due.is("asked()", x.asked(), 0);
        Due.row(x, 0, 5, 3, 5, 5, 6, 5, 9, 5);
        Due.is("more by others", x.search(0, 0, 9), 2 + 16);
        Due.is("asked()", x.asked(), 5);
    }

    private static void wrongInAll() {
        ReadersRoom x = new ReadersRoom();
        x.book(1, 0, false);
        x.book(2, 0, false);
        x.book(3, 2, false);
        Due.finds("none was seen", x.wrong(), x, 4);
        Due.is("upper()", x.upper(), 0);
        Due.is("lower()", x.lower(), 1);
        x.along(5);
        Due.finds("none was seen", x.wrong(), x, 4);
        x.along(0);
        Due.is("wrong()", x.wrong(), 2);
        Due.is("upper()", x.upper(), 0);
        Due.is("lower()", x.lower(), 1);
        misplace(x, 0, 1, 0, 2);
        x.along(2);
        Due.is("wrong()", x.wrong(), 4);
        Due.is("upper()", x.upper(), 3);
        Due.is("lower()", x.lower(), 4);
        x.along(0);
        Due.is("wrong()", x.wrong(), 6);
        Due.is("lowest terms", x.upper(), 1);
        Due.is("lowest terms", x.lower(), 2);
        x.book(4, 0, false);
        Due.is("told anew only by wrong()", x.upper(), 1);
        Due.is("wrong()", x.wrong(), 6);
        Due.is("upper()", x.upper(), 2);
        Due.is("lower()", x.lower(), 3);
        x.lose(3);
        x.along(0);
        Due.is("absent ones are not seen", x.wrong(), 8);
    }
}
