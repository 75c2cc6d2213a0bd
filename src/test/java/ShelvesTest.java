/** Promises 45 to 50: classes MOVED, EYES, what is GONE and through which HANDS. */
public final class ShelvesTest {
    public static void main(String[] args) {
        refusedMoves();
        moves();
        eyes();
        gone();
        hands();
        Due.end("ShelvesTest");
    }

    private static void refusedMoves() {
        ReadersRoom x = new ReadersRoom();
        Due.is("moved(0)", x.moved(0), ReadersRoom.NONE);
        Due.is("moved(-1)", x.moved(-1), ReadersRoom.NONE);
        Due.is("move(-1, 0, 0)", x.move(-1, 0, 0), ReadersRoom.BAD);
        Due.is("move(0, 6, 0)", x.move(0, 6, 0), ReadersRoom.BAD);
        Due.is("move(0, 0, 6)", x.move(0, 0, 6), ReadersRoom.BAD);
        Due.row(x, 0, 10, 20);
        Due.row(x, 1, 0, 7);
        Due.finds("a missing ROW of rooms", x.move(0, 1, 2), x, 1);
        Due.finds("a missing ROW of SHELVES", x.move(0, 2, 1), x, 1);
        Due.finds("a missing ROW of classes", x.move(2, 0, 1), x, 1);
        Due.row(x, 2, 50, 0, 0, 0, 0, 0, 0, 50);
        Due.is("move(0, 1, 2)", x.move(0, 1, 2), 0);
        x.row(3, 0);
        Due.finds("no class", x.move(3, 3, 2), x, 5);
        Due.row(x, 3, 1);
        Due.finds("not as many", x.move(0, 3, 2), x, 5);
        Due.finds("not as many", x.move(3, 1, 2), x, 5);
        Due.finds("not eight rooms", x.move(0, 1, 0), x, 5);
        x.row(4, 13);
        Due.finds("more than 12", x.move(4, 4, 2), x, 5);
        int[][] unlike = {{-1, 0, 0}, {100, 0, 0}, {1, -1, 0}, {1, 8, 0}, {1, 0, -1}, {1, 0, 1000}};
        for (int[] u : unlike) {
            Due.row(x, 3, 0, u[0]);
            Due.row(x, 4, 0, u[1]);
            Due.row(x, 5, 999, 0, 0, 0, 0, 0, 0, u[2]);
            Due.finds("a number that is none", x.move(3, 4, 5), x, 3);
        }
        Due.row(x, 3, 99, 100, 0);
        Due.finds("SIZE ahead of UNLIKE", x.move(3, 1, 2), x, 5);
        Due.row(x, 3, 60, 60);
        Due.is("no room", x.move(3, 1, 2), ReadersRoom.NONE);
        Due.is("moved(0) as it was", x.moved(0), 0);
        Due.is("moved(1) as it was", x.moved(1), 7);
        Due.is("moved(2)", x.moved(2), ReadersRoom.NONE);
        Due.is("moved(-1)", x.moved(-1), ReadersRoom.NONE);
        Due.is("finding()", x.finding(), 5);
    }

    private static void moveOf(int[] many, int[] at, int[] rooms, int carried, int... shelves) {
        ReadersRoom x = new ReadersRoom();
        Due.row(x, 0, many);
        Due.row(x, 1, at);
        Due.row(x, 2, rooms);
        Due.is("move", x.move(0, 1, 2), carried);
        for (int i = 0; i < shelves.length; i++) {
            Due.is("moved(" + i + ")", x.moved(i), shelves[i]);
        }
        Due.is("moved beyond", x.moved(shelves.length), ReadersRoom.NONE);
    }

    private static void moves() {
        int[] wide = {999, 999, 999, 999, 999, 999, 999, 999};
        moveOf(new int[] {5}, new int[] {7}, wide, 0, 7);
        moveOf(new int[] {0}, new int[] {7}, wide, 0, 0);
        moveOf(new int[] {5, 6}, new int[] {3, 2}, wide, 5, 0, 2);
        moveOf(new int[] {6, 5}, new int[] {3, 2}, wide, 5, 3, 3);
        moveOf(new int[] {5, 5}, new int[] {3, 2}, wide, 5, 0, 2);
        moveOf(new int[] {9, 0, 9}, new int[] {1, 0, 4}, wide, 0, 1, 1, 4);
        moveOf(new int[] {10, 10}, new int[] {0, 0}, new int[] {19, 0, 0, 20, 0, 0, 0, 10}, 10, 0, 3);
        moveOf(new int[] {10, 10}, new int[] {0, 0}, new int[] {20, 0, 0, 0, 0, 0, 0, 0}, 0, 0, 0);
        moveOf(new int[] {0, 0}, new int[] {5, 5}, new int[8], 0, 0, 0);
        moveOf(new int[] {1}, new int[] {5}, new int[8], ReadersRoom.NONE);
        moveOf(new int[] {1, 2, 3, 4, 5, 6, 7, 8, 9}, new int[] {0, 1, 2, 3, 4, 5, 6, 7, 7},
            new int[] {1, 2, 3, 4, 5, 6, 7, 17}, 0, 0, 1, 2, 3, 4, 5, 6, 7, 7);
        moveOf(new int[] {99, 99, 99, 99, 99, 99, 99, 99, 99, 99, 99, 99}, new int[12],
            new int[] {999, 0, 0, 0, 0, 0, 0, 198}, 198, 0, 0, 0, 0, 0, 0, 0, 0, 0, 0, 7, 7);
    }

    private static void eyes() {
        ReadersRoom x = new ReadersRoom();
        Due.is("eye(-1, 0)", x.eye(-1, 0), ReadersRoom.BAD);
        Due.is("eye(5, 4)", x.eye(5, 4), ReadersRoom.BAD);
        Due.is("eye(0, 100000)", x.eye(0, 100000), ReadersRoom.BAD);
        Due.is("eye(100000, 100000)", x.eye(100000, 100000), ReadersRoom.BAD);
        Due.is("eyes(-1)", x.eyes(-1), ReadersRoom.BAD);
        Due.is("eyes(100000)", x.eyes(100000), ReadersRoom.BAD);
        Due.is("eyes(0)", x.eyes(0), 0);
        Due.is("eye(5, 5)", x.eye(5, 5), 1);
        Due.is("eye(4, 99999)", x.eye(4, 99999), 2);
        int[] due = {0, 0, 0, 0, 1, 2, 1};
        for (int minute = 0; minute < due.length; minute++) {
            Due.is("eyes(" + minute + ")", x.eyes(minute), due[minute]);
        }
        Due.is("eyes(99999)", x.eyes(99999), 1);
        x.later(50);
        for (int e = 3; e <= 12; e++) {
            Due.is("eye " + e, x.eye(0, 0), e);
        }
        Due.is("the 13th", x.eye(0, 0), ReadersRoom.FULL);
        Due.is("BAD ahead of FULL", x.eye(1, 0), ReadersRoom.BAD);
        Due.is("eyes(0)", x.eyes(0), 10);
        Due.is("count(7)", x.count(7), 12);
    }

    private static void gone() {
        ReadersRoom x = new ReadersRoom();
        x.book(1, 2, false);
        x.book(2, 2, false);
        Due.is("gone(-1)", x.gone(-1), ReadersRoom.BAD);
        Due.is("gone(2)", x.gone(2), ReadersRoom.BAD);
        Due.is("hands(-1)", x.hands(-1), ReadersRoom.BAD);
        Due.is("hands(2)", x.hands(2), ReadersRoom.BAD);
        Due.is("no LOOKS", x.gone(0), ReadersRoom.NONE);
        Due.is("no LOOKS", x.hands(0), ReadersRoom.NONE);
        x.later(10);
        x.along(2);
        x.told(0, 1);
        Due.is("present alone", x.gone(0), ReadersRoom.NONE);
        Due.is("asked() stays", x.asked(), 1);
        x.later(10);
        x.lose(0);
        x.later(5);
        x.along(2);
        Due.is("gone(0)", x.gone(0), 15);
        Due.is("asked()", x.asked(), 10);
        Due.is("hands(0)", x.hands(0), 0);
        Due.is("the other is there", x.gone(1), ReadersRoom.NONE);
        x.find(0);
        x.later(5);
        Due.is("found, but not seen", x.gone(0), 15);
        x.along(2);
        Due.is("seen again", x.gone(0), ReadersRoom.NONE);
        x.later(5);
        x.lose(0);
        int s = Due.slip(x, 0, 1);
        x.send(0, s);
        Due.is("absent by a FETCHER", x.gone(0), 5);
        Due.is("asked()", x.asked(), 30);
        x.find(0);
        x.lose(0);
        x.later(7);
        x.along(2);
        Due.is("the first one absent counts", x.gone(0), 5);
        x.lose(1);
        x.along(2);
        Due.is("gone(1) at the same minute", x.gone(1), 0);
        Due.is("asked()", x.asked(), 42);
    }

    /** READER 6 has the BOOK from 'begin' till 'end'; it is seen at minute 100 and missed at minute 200. */
    private static int handsOf(int begin, int end) {
        ReadersRoom x = new ReadersRoom();
        x.book(1, 0, false);
        for (int minute = 0; minute <= 200; minute++) {
            if (minute == begin - 4) {
                Due.slip(x, 6, 1);
                x.send(0, 0);
            }
            if (minute == end) {
                x.back(0, 0);
            }
            if (minute == 100) {
                x.along(0);
            }
            x.later(minute < 200 ? 1 : 0);
        }
        x.lose(0);
        x.along(0);
        return x.hands(0);
    }

    private static void hands() {
        Due.is("ahead of both", handsOf(50, 99), 0);
        Due.is("till the first one's minute", handsOf(50, 100), 64);
        Due.is("between", handsOf(110, 120), 64);
        Due.is("till the second one's minute", handsOf(110, 200), 64);
        ReadersRoom x = new ReadersRoom();
        x.book(1, 0, false);
        x.book(2, 0, false);
        Due.slip(x, 3, 1);
        Due.slip(x, 5, 1);
        Due.slip(x, 5, 2);
        x.along(0);
        x.send(0, 0);
        x.later(4);
        x.back(0, 1);
        x.send(0, 1);
        x.later(10);
        Due.is("gone(0)", x.gone(0), 4);
        Due.is("who gave it back at the last minute", x.hands(0), 8);
        x.along(1);
        x.send(0, 2);
        x.later(10);
        Due.is("seen again", x.hands(0), ReadersRoom.NONE);
        x.lose(0);
        x.along(0);
        Due.is("nobody had it then", x.hands(0), 0);
        x.find(0);
        x.along(0);
        int s = Due.slip(x, 7, 1);
        x.send(1, s);
        x.later(4);
        x.back(0, 2);
        s = Due.slip(x, 6, 1);
        x.along(2);
        x.send(2, s);
        x.later(4);
        x.back(0, 2);
        s = Due.slip(x, 0, 1);
        x.send(2, s);
        Due.is("two READERS, both at one of the minutes", x.hands(0), 128 + 64);
    }
}
