/** Promises 8 to 10, 23 and 24: YEARS, and what a SEED draws. */
public final class YearTest {
    private static final Due DUE = new Due("YearTest");

    /*
     * STRENGTHS (o: OPEN):  3 3 o 4
     *                       3 o o 4
     *                       1 1 0 2
     */
    private static final String LITTLE = "size 4 3;rod 0 3 1;rod 1 2 0;rod 2 1 1;stake 0 1 0;stake 1 2 1;"
        + "stake 2 0 0;stake 3 4 2;open 1 1;open 2 1;open 2 0;";
    private static final String LONG = "deed 1 1 0;deed 2 2 1;deed 2 2 2;winter;mend rod 0;grow stake 2;wet;"
        + "weave 1 1;deed 1 2 50;dry;weave 3 0;deed 5 1 99;";

    private static WillowLaw with(String basket, String year) {
        WillowLaw x = Due.with(0, basket);
        DUE.is("4: a year", Due.text(x, 1, -1, year), 0);
        return x;
    }

    private static void deed() {
        WillowLaw x = with(LITTLE, LONG);
        int[][] want = {{0, 1, 1, 0}, {0, 2, 2, 1}, {0, 2, 2, 2}, {4, -1, -1, -1}, {1, 0, 0, -1}, {2, 1, 2, -1},
            {5, -1, -1, -1}, {3, 1, 1, -1}, {0, 1, 2, 50}, {6, -1, -1, -1}, {3, 3, 0, -1}, {0, 5, 1, 99}};
        DUE.is("8: how many", x.deed(0, -1, 0), want.length);
        for (int k = 0; k < want.length; k++) {
            for (int what = 0; what < 4; what++) {
                DUE.is("8: deed(0, " + k + ", " + what + ")", x.deed(0, k, what), want[k][what]);
            }
        }
        DUE.is("8: k NONE, what 1", x.deed(0, -1, 1), -2);
        DUE.is("8: k -2", x.deed(0, -2, 0), -2);
        DUE.is("8: k 12", x.deed(0, 12, 0), -2);
        DUE.is("8: what 4", x.deed(0, 0, 4), -2);
        DUE.is("8: what -1", x.deed(0, 0, -1), -2);
        DUE.is("8: no year", x.deed(1, 0, 0), -2);
        DUE.is("8: no year, how many", x.deed(1, -1, 0), -2);
        DUE.is("8: k far", x.deed(0, Integer.MAX_VALUE, 3), -2);
    }

    private static void states() {
        WillowLaw x = with(LITTLE, LONG);
        DUE.is("9: END", x.till(0, 0), 10);
        int[][] slipBreakHeldOpenWetAll = {{0, 0, 0, 3, 0, 21}, {1, 0, 0, 3, 0, 21}, {1, 0, 1, 3, 0, 21},
            {1, 1, 1, 5, 0, 20}};
        for (int n = 0; n < slipBreakHeldOpenWetAll.length; n++) {
            for (int what = 0; what < 6; what++) {
                DUE.is("10: state " + n + ", " + what, x.state(0, 0, n, what), slipBreakHeldOpenWetAll[n][what]);
            }
        }
        DUE.is("10: broken at 9", x.state(0, 0, 3, 109), -1);
        DUE.is("10: winter", x.state(0, 0, 4, 20), 2);
        DUE.is("10: winter, stake", x.state(0, 0, 4, 43), 3);
        DUE.is("10: mended", x.state(0, 0, 5, 20), 0);
        DUE.is("10: grown", x.state(0, 0, 6, 32), 1);
        DUE.is("10: wet", x.state(0, 0, 7, 4), 1);
        DUE.is("10: wet strength", x.state(0, 0, 7, 100), 1);
        DUE.is("10: open", x.state(0, 0, 7, 3), 5);
        DUE.is("10: woven", x.state(0, 0, 8, 3), 4);
        DUE.is("10: woven, 5", x.state(0, 0, 8, 105), 0);
        DUE.is("10: slipped", x.state(0, 0, 9, 0), 2);
        int[] last = {2, 1, 1, 4, 0, 14};
        for (int what = 0; what < 6; what++) {
            DUE.is("10: the last, " + what, x.state(0, 0, 10, what), last[what]);
        }
        DUE.is("10: behind END", x.state(0, 0, 11, 0), -2);
        DUE.is("10: n -1", x.state(0, 0, -1, 0), -2);
        DUE.is("10: what 6", x.state(0, 0, 0, 6), -2);
        DUE.is("10: no rod", x.state(0, 0, 0, 13), -2);
        DUE.is("10: no stroke", x.state(0, 0, 0, 112), -2);
        DUE.is("10: no basket", x.state(1, 0, 0, 0), -2);
        DUE.is("10: no year", x.state(0, 1, 0, 0), -2);
        DUE.is("9: no basket", x.till(1, 0), -1);
        DUE.is("9: no year", x.till(0, -1), -1);
        DUE.is("6: the basket stays as told", x.basket(0, 3), 3);
    }

    private static int end(String basket, String year) {
        return with(basket, year).till(0, 0);
    }

    private static void deedsThatCannotBe() {
        DUE.is("9: an empty year", end("", ""), 0);
        DUE.is("9: wet twice", end("", "wet;wet;"), 1);
        DUE.is("9: wet when told so", end("wet;", "wet;"), 0);
        DUE.is("9: dry at once", end("", "dry;"), 0);
        DUE.is("9: dry when wet", end("wet;", "dry;dry;"), 1);
        DUE.is("9: a rod that is not there", end("size 6 3;", "mend rod 2;mend rod 3;"), 1);
        DUE.is("9: a stake that is not there", end("size 3 6;", "mend stake 2;grow stake 3;"), 1);
        DUE.is("9: too thick", end("stake 1 8 0;", "grow stake 1;grow stake 1;"), 1);
        DUE.is("9: mended though whole", end("", "mend rod 0;mend rod 0;"), 2);
        DUE.is("9: woven though shut", end("", "weave 0 0;"), 0);
        DUE.is("9: woven twice", end("open 0 0;", "weave 0 0;weave 0 0;"), 1);
        DUE.is("9: a stroke that is not there", end("size 3 3;open 0 1;", "weave 0 1;weave 3 0;"), 1);
        DUE.is("9: column and row", end("size 2 4;open 0 3;", "weave 0 3;"), 1);
        DUE.is("9: winters", end("", "winter;".repeat(40)), 40);
        WillowLaw x = with("rod 0 2 8;", "winter;winter;");
        DUE.is("10: 9 at most", x.state(0, 0, 2, 20), 9);
        WillowLaw wide = with("size 2 2;", "deed 3 1 99;");
        DUE.is("10: wider is held", wide.state(0, 0, 1, 2), 1);
        WillowLaw first = with("size 3 2;", "deed 1 1 5;");
        DUE.is("10: of several the first is broken", first.state(0, 0, 1, 100), -1);
        WillowLaw less = with("size 3 2;rod 0 9 0;", "deed 1 1 4;deed 1 1 5;");
        DUE.is("10: as much as HOLD is held", less.state(0, 0, 1, 2), 1);
        DUE.is("10: more breaks", less.state(0, 0, 2, 103), -1);
    }

    private static void precedent() {
        WillowLaw x = with(LITTLE, LONG);
        DUE.is("24: as told", x.precedent(0, 0, 2, 1), 0);
        DUE.is("24: broken", x.precedent(0, 0, 2, 2), 3);
        DUE.is("24: none", x.precedent(0, 0, 3, 3), -1);
        DUE.is("24: wider", x.precedent(0, 0, 8, 1), -1);
        DUE.is("24: another size", x.precedent(0, 0, 0, 1), -2);
        DUE.is("24: 9", x.precedent(0, 0, 1, 9), -2);
        DUE.is("24: no basket", x.precedent(1, 0, 1, 1), -2);
        DUE.is("24: no year", x.precedent(0, 1, 1, 1), -2);
        DUE.is("24: in the last state", with("size 2 2;", "deed 2 2 99;").precedent(0, 0, 2, 2), 1);
        DUE.is("24: not behind END", with("size 2 2;", "dry;deed 2 2 99;").precedent(0, 0, 2, 2), -1);
    }

    /** The numbers that SEED draws, and from them by hand what becomes of the BASKET. */
    private static void drawn() {
        WillowLaw x = Due.with(0, LITTLE);
        DUE.is("23: none drawn", x.drawn(0, 7, 0, 3), 3);
        DUE.is("23: 61", x.drawn(0, 7, 61, 3), -2);
        DUE.is("23: -1", x.drawn(0, 7, -1, 3), -2);
        DUE.is("23: what 6", x.drawn(0, 7, 5, 6), -2);
        DUE.is("23: no rod", x.drawn(0, 7, 5, 13), -2);
        DUE.is("23: no basket", x.drawn(1, 7, 5, 0), -2);
        // Seed 0 draws 12345 >>> 16 = 0 (deed), then 54236 (width 1), 42756 (height 1), 54885 (FORCE 5); then 3498 (deed).
        DUE.is("23: one deed slips", x.drawn(0, 0, 1, 0), 1);
        WillowLaw shut = Due.with(0, "size 2 2;rod 0 3 0;");
        DUE.is("23: it breaks by 5", shut.drawn(0, 0, 1, 1), 1);
        DUE.is("23: the softest is open then", shut.drawn(0, 0, 1, 102), -1);
        DUE.is("23: held by 5", Due.with(0, "size 2 2;rod 0 3 0;rod 1 3 0;").drawn(0, 0, 1, 2), 1);
        DUE.is("23: the basket stays as told", shut.basket(0, 3), 0);
        int deeds = 0;
        for (int what = 0; what < 3; what++) {
            deeds += x.drawn(0, -123456789, 60, what);
        }
        DUE.is("23: deeds of 60", deeds, deedsOf(-123456789, 60, 4, 3));
    }

    /** How many of those drawn are deeds, whatever becomes of them. */
    private static int deedsOf(int seed, int n, int wide, int high) {
        int[] numbers = {3, 3, 3, 1, 1, 1, 0, 0};
        long x = seed & 0xffffffffL;
        int deeds = 0;
        for (int i = 0; i < n; i++) {
            x = (x * 1103515245L + 12345) & 0xffffffffL;
            int lot = (int) (x >> 16) % 8;
            deeds += lot < 3 ? 1 : 0;
            for (int k = 0; k < numbers[lot]; k++) {
                x = (x * 1103515245L + 12345) & 0xffffffffL;
            }
        }
        return deeds;
    }

    public static void main(String[] args) {
        deed();
        states();
        deedsThatCannotBe();
        precedent();
        drawn();
        DUE.finish();
    }
}
