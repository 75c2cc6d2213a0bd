/** Compares answers with those that are due, prints each that is another one, and ends the test. */
final class Due {
    private static final int SHOWN = 40;
    private static int compared = 0;
    private static int wrong = 0;

    private Due() {
    }

    static void is(String call, long got, long want) {
        compared++;
        if (got != want) {
            complain(call + " answered " + got + ", due is " + want);
        }
    }

    static void complain(String what) {
        wrong++;
        if (wrong <= SHOWN) {
            System.out.println(what);
        }
    }

    /** A FINDING was answered, and it was this one. */
    static void finds(String call, long got, ReadersRoom x, int finding) {
        is(call, got, ReadersRoom.FINDING);
        is(call + " finding()", x.finding(), finding);
    }

    /** Lays the numbers as a ROW. */
    static void row(ReadersRoom x, int r, int... numbers) {
        is("row(" + r + ", " + numbers.length + ")", x.row(r, numbers.length), numbers.length);
        for (int i = 0; i < numbers.length; i++) {
            is("lay(" + r + ", " + i + ", " + numbers[i] + ")", x.lay(r, i, numbers[i]), 1);
        }
    }

    /** Puts the signs as a TEXT. */
    static void text(ReadersRoom x, int t, String signs) {
        is("text(" + t + ", " + signs.length() + ")", x.text(t, signs.length()), signs.length());
        for (int i = 0; i < signs.length(); i++) {
            is("put(" + t + ", " + i + ", ..)", x.put(t, i, signs.charAt(i)), 1032);
        }
    }

    /** Tells RULES by TEXT 3. */
    static int rule(ReadersRoom x, String signs, int from) {
        text(x, 3, signs);
        return x.rule(3, from);
    }

    /** Tells a SLIP by TEXT 2. */
    static int slip(ReadersRoom x, int reader, int mark) {
        text(x, 2, Integer.toString(mark));
        return x.slip(reader, 2, 0);
    }

    static int told(ReadersRoom x, int b, int what) {
        is("told(" + b + ", " + what + ")", x.told(b, what), 1);
        return x.asked();
    }

    static int slipTold(ReadersRoom x, int s, int what) {
        is("slipTold(" + s + ", " + what + ")", x.slipTold(s, what), 1);
        return x.asked();
    }

    static void end(String test) {
        System.out.println(test + ": " + compared + " answers compared, " + wrong + " not as due");
        if (wrong != 0) {
            System.exit(1);
        }
    }
}
