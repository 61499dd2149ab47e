/** Terms 2, 5 and 6, promises 8 to 10, 23 and 24: a test for each sentence that names an edge. */
public final class YearEdgesTest {
    private static final Due DUE = new Due("YearEdgesTest");
    private static final int LEAST = Integer.MIN_VALUE;
    private static final int MOST = Integer.MAX_VALUE;
    private static final int SLIPPED = 0;
    private static final int BROKE = 1;
    private static final int HELD = 2;
    private static final int OPEN = 3;
    private static final int WET = 4;
    private static final int ALL = 5;

    private static WillowLaw with(String basket, String year) {
        WillowLaw x = Due.with(0, basket);
        DUE.is("a YEAR", Due.text(x, 1, -1, year), 0);
        return x;
    }

    private static void endIs(String basket, String year, int end) {
        WillowLaw x = with(basket, year);
        String of = " of '" + year + "' in '" + basket + "'";
        DUE.is("END" + of, x.till(0, 0), end);
        DUE.is("the STATE behind END" + of, x.state(0, 0, end, 0) != -2, true);
        DUE.is("no STATE further on" + of, x.state(0, 0, end + 1, 0), -2);
    }

    /** What a STATE of an only YEAR in an only BASKET answers. */
    private static void stateIs(String basket, String year, int n, int what, int due) {
        DUE.is("state " + n + ", " + what + " of '" + year + "' in '" + basket + "'", with(basket, year).state(0, 0, n, what), due);
    }

    // ---- promise 8 ----

    private static void deed() {
        DUE.sentence("Promise 8", "How many DEEDS (k NONE, what 0)");
        int[] many = {0, 1, 2, 39, 40};
        for (int n : many) {
            DUE.is("of " + n, Due.with(1, "dry;".repeat(n)).deed(0, -1, 0), n);
        }
        DUE.sentence("Promise 8", "1, 2, 3: its numbers (mend, grow: 0 rod, 1 stake, which; NONE without)");
        String year = "deed 8 1 0;deed 1 8 99;mend rod 7;mend stake 0;grow rod 0;grow stake 7;weave 7 0;weave 0 7;winter;wet;dry;";
        int[][] due = {{0, 8, 1, 0}, {0, 1, 8, 99}, {1, 0, 7, -1}, {1, 1, 0, -1}, {2, 0, 0, -1}, {2, 1, 7, -1}, {3, 7, 0, -1},
            {3, 0, 7, -1}, {4, -1, -1, -1}, {5, -1, -1, -1}, {6, -1, -1, -1}};
        WillowLaw x = Due.with(1, year);
        for (int k = 0; k < due.length; k++) {
            for (int what = 0; what < 4; what++) {
                DUE.is("deed(0, " + k + ", " + what + ")", x.deed(0, k, what), due[k][what]);
            }
        }
        DUE.sentence("Promise 8", "-2: there is none such (of either), or for another what");
        int[] noK = {-2, -3, 11, 12, 39, 40, 41, LEAST, MOST};
        for (int k : noK) {
            for (int what = -1; what < 5; what++) {
                DUE.is("deed(0, " + k + ", " + what + ")", x.deed(0, k, what), -2);
            }
        }
        int[] noWhat = {-1, -2, 4, 5, LEAST, MOST};
        for (int what : noWhat) {
            DUE.is("deed(0, 0, " + what + ")", x.deed(0, 0, what), -2);
            DUE.is("deed(0, NONE, " + what + ")", x.deed(0, -1, what), -2);
        }
        for (int what = 1; what < 4; what++) {
            DUE.is("deed(0, NONE, " + what + ")", x.deed(0, -1, what), -2);
        }
        DUE.is("of no DEEDS, the first", Due.with(1, "").deed(0, 0, 0), -2);
        WillowLaw full = Due.with(1, "wet;".repeat(39) + "deed 1 2 3;");
        DUE.is("the 40th", full.deed(0, 39, 3), 3);
        DUE.is("the 41st", full.deed(0, 40, 0), -2);
    }

    // ---- none such ----

    private static long[] answers(WillowLaw x, int promise, int basket, int year) {
        switch (promise) {
            case 8:
                return new long[] {x.deed(year, -1, 0), x.deed(year, 0, 0), x.deed(year, 0, 3)};
            case 9:
                return new long[] {x.till(basket, year)};
            case 10:
                return new long[] {x.state(basket, year, 0, 0), x.state(basket, year, 0, 5), x.state(basket, year, 0, 100)};
            case 23:
                return new long[] {x.drawn(basket, 1, 0, 0), x.drawn(basket, 1, 1, 3), x.drawn(basket, 1, 60, 100)};
            default:
                return new long[] {x.precedent(basket, year, 1, 1)};
        }
    }

    private static void noneIs(WillowLaw x, int promise, int basket, int year) {
        for (long is : answers(x, promise, basket, year)) {
            DUE.is("of BASKET " + basket + ", YEAR " + year, is, promise == 9 ? -1 : -2);
        }
    }

    private static WillowLaw withSoMany(int baskets, int years) {
        WillowLaw x = new WillowLaw();
        for (int i = 0; i < baskets; i++) {
            x.text(0, -1);
        }
        for (int i = 0; i < years; i++) {
            Due.text(x, 1, -1, "winter;");
        }
        return x;
    }

    private static void noneSuch() {
        int[] promises = {8, 9, 10, 23, 24};
        for (int promise : promises) {
            DUE.sentence("Promise " + promise, promise == 23 ? "there is none such" : "there is none such (of either)");
            for (int many = 0; many < 3; many++) {
                int[] no = {-1, -2, many, many + 1, 2, LEAST, MOST};
                for (int i : no) {
                    if (promise != 8) {
                        noneIs(withSoMany(many, 2), promise, i, 0);
                        noneIs(withSoMany(many, 2), promise, i, 1);
                    }
                    if (promise != 23) {
                        noneIs(withSoMany(2, many), promise, 0, i);
                        noneIs(withSoMany(2, many), promise, 1, i);
                    }
                    noneIs(withSoMany(many, many), promise, i, i);
                }
            }
        }
        DUE.sentence("Term 1", "BASKETS, at most 2 (sort 0), YEARS, at most 2 (1), from 0 on");
        WillowLaw x = with("", "wet;");
        Due.text(x, 0, -1, "wet;");
        Due.text(x, 1, -1, "dry;");
        int[][] pairs = {{0, 0, 1}, {0, 1, 0}, {1, 0, 0}, {1, 1, 1}};
        for (int[] p : pairs) {
            DUE.is("till(" + p[0] + ", " + p[1] + ")", x.till(p[0], p[1]), p[2]);
        }
    }

    // ---- deeds ----

    private static void slips() {
        DUE.sentence("Term 2", "deed: it SLIPS");
        stateIs("open 0 0;", "deed 1 1 0;", 1, SLIPPED, 1);
        stateIs("open 0 0;", "deed 1 1 99;", 1, SLIPPED, 1);
        stateIs("open 0 0;", "deed 1 1 99;", 1, BROKE, 0);
        stateIs("open 0 0;", "deed 1 1 99;", 1, OPEN, 1);
        DUE.sentence("Term 2", "if its FORCE is more than its HOLD, it BREAKS the BASKET .. or it is HELD");
        stateIs("", "deed 1 1 4;", 1, HELD, 1);
        stateIs("", "deed 1 1 4;", 1, OPEN, 0);
        stateIs("", "deed 1 1 5;", 1, BROKE, 1);
        stateIs("", "deed 1 1 5;", 1, HELD, 0);
        stateIs("", "deed 4 6 96;", 1, HELD, 1);
        stateIs("", "deed 4 6 97;", 1, BROKE, 1);
        stateIs("rod 0 0 9;", "deed 6 1 0;", 1, HELD, 1);
        stateIs("rod 0 0 9;", "deed 6 1 1;", 1, BROKE, 1);
        stateIs("wet;", "deed 1 1 2;", 1, HELD, 1);
        stateIs("wet;", "deed 1 1 3;", 1, BROKE, 1);
        stateIs("size 2 2;open 0 0;open 1 0;open 0 1;", "deed 2 2 4;", 1, HELD, 1);
        stateIs("size 2 2;open 0 0;open 1 0;open 0 1;", "deed 2 2 5;", 1, BROKE, 1);
        DUE.sentence("Term 2", "(none, if it is wider or higher than the BASKET: then it is HELD whatever its FORCE)");
        String[] wide = {"deed 3 1 99;", "deed 1 3 99;", "deed 8 8 99;", "deed 3 2 0;", "deed 2 3 99;"};
        for (String year : wide) {
            stateIs("size 2 2;rod 0 0 9;rod 1 0 9;open 0 0;", year, 1, HELD, 1);
            stateIs("size 2 2;rod 0 0 9;rod 1 0 9;open 0 0;", year, 1, OPEN, 1);
            endIs("size 2 2;", year, 1);
        }
    }

    private static void breaks() {
        DUE.sentence("Term 2", "all STROKES of that rectangle are OPEN then");
        WillowLaw x = with("size 4 4;rod 1 1 0;rod 2 1 0;stake 1 1 0;stake 2 1 0;", "deed 2 2 9;deed 2 2 0;");
        for (int s = 0; s < 16; s++) {
            boolean inside = s == 5 || s == 6 || s == 9 || s == 10;
            DUE.is("STROKE " + s, x.state(0, 0, 1, 100 + s) == -1, inside);
        }
        DUE.is("four OPEN", x.state(0, 0, 1, OPEN), 4);
        DUE.is("it SLIPS from then on", x.state(0, 0, 2, SLIPPED), 1);
        DUE.is("the whole of 8 8", with("size 8 8;rod 0 0 9;rod 1 0 9;rod 2 0 9;rod 3 0 9;rod 4 0 9;rod 5 0 9;rod 6 0 9;"
            + "rod 7 0 9;", "deed 8 8 1;").state(0, 0, 1, OPEN), 64);
        DUE.sentence("Term 2", "HOLD .. of a rectangle of its size, of several the first");
        stateIs("size 8 8;", "deed 1 1 5;", 1, 100, -1);
        stateIs("size 3 3;stake 0 3 0;", "deed 1 1 5;", 1, 101, -1);
        stateIs("size 3 3;rod 0 3 0;", "deed 1 1 5;", 1, 103, -1);
        stateIs("size 3 3;rod 0 3 0;stake 0 3 0;", "deed 2 2 17;", 1, 104, -1);
        stateIs("size 3 3;rod 0 3 0;stake 0 3 0;", "deed 2 2 17;", 1, OPEN, 4);
        stateIs("size 4 4;rod 3 1 0;stake 3 1 0;", "deed 1 1 3;", 1, 115, -1);
        stateIs("size 4 2;open 1 0;open 2 1;", "deed 2 1 5;", 1, 100, -1);
        stateIs("size 4 2;open 1 0;open 2 1;", "deed 2 1 5;", 1, OPEN, 3);
    }

    private static void careOfTwigs() {
        DUE.sentence("Term 2", "mend: WEAR of a ROD, a STAKE is 0");
        stateIs("size 8 8;rod 7 2 9;", "mend rod 7;", 1, 27, 0);
        stateIs("size 8 8;stake 7 2 9;", "mend stake 7;", 1, 47, 0);
        stateIs("rod 0 2 9;stake 0 2 9;", "mend rod 0;", 1, 40, 9);
        stateIs("rod 0 2 9;stake 0 2 9;", "mend stake 0;", 1, 20, 9);
        stateIs("rod 0 7 9;", "mend rod 0;", 1, 10, 7);
        endIs("", "mend rod 0;mend rod 0;mend stake 5;", 3);
        DUE.sentence("Term 2", "grow: THICK is 1 more; not if it is 9");
        stateIs("rod 0 8 3;", "grow rod 0;", 1, 10, 9);
        stateIs("rod 0 8 3;", "grow rod 0;", 1, 20, 3);
        stateIs("stake 5 0 3;", "grow stake 5;", 1, 35, 1);
        stateIs("", "grow stake 5;", 1, 15, 2);
        endIs("rod 0 9 0;", "grow rod 0;", 0);
        endIs("stake 0 9 0;", "wet;grow stake 0;", 1);
        endIs("rod 0 8 0;", "grow rod 0;grow rod 0;", 1);
        endIs("rod 0 9 0;", "grow stake 0;grow rod 1;", 2);
        endIs("", "grow rod 0;".repeat(8), 7);
        DUE.sentence("Term 2", "winter: WEAR of all RODS and STAKES is 1 more, 9 at most");
        for (int n = 0; n <= 12; n++) {
            stateIs("size 8 8;stake 7 2 8;", "winter;".repeat(12), n, 27, Math.min(9, n));
            stateIs("size 8 8;stake 7 2 8;", "winter;".repeat(12), n, 20, Math.min(9, n));
            stateIs("size 8 8;stake 7 2 8;", "winter;".repeat(12), n, 47, Math.min(9, 8 + n));
            stateIs("size 8 8;stake 7 2 8;", "winter;".repeat(12), n, 40, Math.min(9, n));
        }
        endIs("rod 0 0 9;", "winter;".repeat(40), 40);
    }

    private static void weaving() {
        DUE.sentence("Term 2", "weave: an OPEN STROKE is so no more");
        endIs("open 0 0;", "weave 0 0;", 1);
        stateIs("open 0 0;", "weave 0 0;", 1, OPEN, 0);
        stateIs("open 0 0;", "weave 0 0;", 1, 100, 4);
        endIs("", "weave 0 0;", 0);
        endIs("open 0 0;", "weave 0 0;weave 0 0;", 1);
        endIs("open 1 0;", "weave 0 1;", 0);
        endIs("size 8 8;open 7 7;", "weave 7 7;", 1);
        endIs("", "deed 1 1 99;weave 0 0;", 2);
        DUE.sentence("Term 2", "wet, dry: it is WET, it is not; not if it is so already");
        endIs("", "wet;", 1);
        endIs("", "dry;", 0);
        endIs("wet;", "wet;", 0);
        endIs("wet;", "dry;", 1);
        endIs("", "wet;dry;wet;dry;dry;", 4);
        endIs("", "wet;wet;", 1);
        stateIs("", "wet;", 1, WET, 1);
        stateIs("wet;", "dry;", 1, WET, 0);
        stateIs("wet;", "", 0, WET, 1);
    }

    private static void deedsThatCannotBe() {
        DUE.sentence("Term 2", "A DEED can't be, if there is no such ROD, STAKE, STROKE");
        for (int size = 2; size <= 8; size++) {
            String flat = "size 8 " + size + ";";
            String slim = "size " + size + " 8;";
            for (int i = 0; i < 8; i++) {
                int end = i < size ? 1 : 0;
                endIs(flat, "mend rod " + i + ";", end);
                endIs(flat, "grow rod " + i + ";", end);
                endIs(flat, "mend stake " + i + ";", 1);
                endIs(slim, "mend stake " + i + ";", end);
                endIs(slim, "grow stake " + i + ";", end);
                endIs(slim, "grow rod " + i + ";", 1);
                endIs(i < size ? flat + "open 0 " + i + ";" : flat, "weave 0 " + i + ";", end);
                endIs(i < size ? slim + "open " + i + " 0;" : slim, "weave " + i + " 0;", end);
            }
        }
        // A STROKE that is not there is not the OPEN one whose number it would have.
        endIs("size 3 3;open 0 1;", "weave 3 0;", 0);
        endIs("size 3 3;open 2 2;", "weave 5 1;", 0);
        DUE.sentence("Term 2", "END: the first DEED that can't be, else how many there are");
        endIs("", "", 0);
        endIs("", "winter;", 1);
        endIs("", "winter;".repeat(39) + "wet;", 40);
        endIs("wet;", "winter;".repeat(39) + "wet;", 39);
        endIs("", "wet;mend rod 7;dry;dry;", 1);
        endIs("", "mend rod 6;wet;dry;", 0);
    }

    // ---- promises 9 and 10 ----

    private static void states() {
        DUE.sentence("Term 2", "A STATE is behind the first n DEEDS, n up to END");
        WillowLaw x = with("", "winter;winter;dry;winter;");
        DUE.is("END", x.till(0, 0), 2);
        for (int n = 0; n <= 2; n++) {
            DUE.is("WEAR behind " + n, x.state(0, 0, n, 20), n);
        }
        int[] no = {-1, -2, 3, 4, 5, 40, 41, LEAST, MOST};
        for (int n : no) {
            for (int what = 0; what < 6; what++) {
                DUE.is("state(0, 0, " + n + ", " + what + ")", x.state(0, 0, n, what), -2);
            }
        }
        DUE.is("a whole YEAR", with("", "winter;".repeat(40)).state(0, 0, 40, 25), 9);
        DUE.is("behind a whole YEAR", with("", "winter;".repeat(40)).state(0, 0, 41, 25), -2);
        DUE.is("no DEEDS", with("", "").state(0, 0, 0, ALL), 144);
        DUE.is("no DEEDS, 1", with("", "").state(0, 0, 1, ALL), -2);
        DUE.sentence("Promise 10", "-2: there is no such STATE, or for another what");
        int[][] sizes = {{2, 2}, {2, 8}, {8, 2}, {8, 8}};
        for (int[] s : sizes) {
            WillowLaw y = with("size " + s[0] + " " + s[1] + ";", "winter;");
            for (int what = -30; what < 200; what++) {
                boolean ofRod = what >= 10 && what < 10 + s[1] || what >= 20 && what < 20 + s[1];
                boolean ofStake = what >= 30 && what < 30 + s[0] || what >= 40 && what < 40 + s[0];
                boolean ofStroke = what >= 100 && what < 100 + s[0] * s[1];
                boolean tells = what >= 0 && what <= 5 || ofRod || ofStake || ofStroke;
                DUE.is("state(0, 0, 1, " + what + ")", y.state(0, 0, 1, what) != -2, tells);
                DUE.is("drawn(0, 1, 1, " + what + ")", y.drawn(0, 1, 1, what) != -2, tells);
            }
            int[] far = {1000, LEAST, LEAST + 100, MOST, MOST - 99, -100};
            for (int what : far) {
                DUE.is("state(0, 0, 1, " + what + ")", y.state(0, 0, 1, what), -2);
                DUE.is("drawn(0, 1, 1, " + what + ")", y.drawn(0, 1, 1, what), -2);
            }
        }
        DUE.sentence("Promise 10", "5: STRENGTHS of all together");
        DUE.is("all OPEN but one", with("size 2 2;open 0 0;open 1 0;open 0 1;", "").state(0, 0, 0, ALL), 4);
        DUE.is("all OPEN", with("size 2 2;open 0 0;open 1 0;open 0 1;open 1 1;", "").state(0, 0, 0, ALL), 0);
        DUE.is("halved each", with("size 2 2;rod 0 3 0;wet;", "").state(0, 0, 0, ALL), 8);
        DUE.is("the whole of 8 8", with("size 8 8;", "").state(0, 0, 0, ALL), 256);
        DUE.sentence("Promise 10", "100 + s: as basket() has them (NONE: it is OPEN)");
        DUE.is("OPEN", with("size 2 2;open 1 1;", "").state(0, 0, 0, 103), -1);
        DUE.sentence("Term 2", "A YEAR of a BASKET begins with all as told");
        WillowLaw y = with("size 2 2;", "deed 2 2 99;wet;winter;grow rod 0;");
        for (int twice = 0; twice < 2; twice++) {
            DUE.is("END", y.till(0, 0), 4);
            DUE.is("OPEN behind the last", y.state(0, 0, 4, OPEN), 4);
            DUE.is("OPEN as told", y.state(0, 0, 0, OPEN), 0);
            DUE.is("the BASKET's", y.basket(0, 3), 0);
            DUE.is("the BASKET's WEAR", y.basket(0, 20), 0);
            DUE.is("the BASKET's THICK", y.basket(0, 10), 2);
            DUE.is("the BASKET is not WET", y.basket(0, 2), 0);
        }
    }

    // ---- promise 24 ----

    private static void precedent() {
        DUE.sentence("Promise 24", "(NONE: in no STATE)");
        WillowLaw x = with("size 3 3;open 2 2;", "deed 2 1 99;dry;deed 3 3 99;");
        DUE.is("behind END it would", x.precedent(0, 0, 3, 3), -1);
        DUE.is("wider", x.precedent(0, 0, 4, 1), -1);
        DUE.is("higher", x.precedent(0, 0, 1, 8), -1);
        DUE.is("no DEEDS", with("", "").precedent(0, 0, 1, 1), -1);
        DUE.sentence("Term 6", "the least n, 0 to END, of a STATE in which it SLIPS");
        DUE.is("as told", x.precedent(0, 0, 1, 1), 0);
        DUE.is("behind END's DEEDS", x.precedent(0, 0, 2, 1), 1);
        DUE.is("as told, no DEEDS", with("open 5 5;", "").precedent(0, 0, 1, 1), 0);
        DUE.is("as told, though woven later", with("open 5 5;", "weave 5 5;").precedent(0, 0, 1, 1), 0);
        DUE.is("in the 40th", with("", "winter;".repeat(39) + "deed 1 1 99;").precedent(0, 0, 1, 1), 40);
        DUE.is("the least of several", with("", "deed 1 1 99;weave 0 0;deed 1 1 99;").precedent(0, 0, 1, 1), 1);
        DUE.sentence("Promise 24", "-2: .. or another size");
        int[] no = {LEAST, -2, -1, 0, 9, 10, MOST};
        for (int side : no) {
            for (int other = 1; other <= 8; other++) {
                DUE.is("precedent of " + side + " " + other, x.precedent(0, 0, side, other), -2);
                DUE.is("precedent of " + other + " " + side, x.precedent(0, 0, other, side), -2);
            }
            DUE.is("precedent of " + side + " " + side, x.precedent(0, 0, side, side), -2);
        }
    }

    // ---- promise 23: numbers by long, so that 32 bits are cut by hand ----

    private static long next(long x) {
        return (x * 1103515245L + 12345L) % 4294967296L;
    }

    private static long seedOf(int seed) {
        return seed < 0 ? seed + 4294967296L : seed;
    }

    /** A SEED from one on whose first number below 8 is a lot. */
    private static int seedFor(int lot, int from) {
        int seed = from;
        while ((next(seedOf(seed)) >> 16) % 8 != lot) {
            seed++;
        }
        return seed;
    }

    /** The number below n that a SEED draws behind so many others. */
    private static int drawn(int seed, int others, int n) {
        long x = seedOf(seed);
        for (int i = 0; i <= others; i++) {
            x = next(x);
        }
        return (int) ((x >> 16) % n);
    }

    private static void drawnEdges() {
        DUE.sentence("Promise 23", "-2: there is none such, another n, or for another what");
        WillowLaw x = Due.with(0, "open 0 0;");
        int[] no = {-1, -2, 61, 62, LEAST, MOST};
        for (int n : no) {
            for (int what = 0; what < 6; what++) {
                DUE.is("drawn(0, 1, " + n + ", " + what + ")", x.drawn(0, 1, n, what), -2);
            }
        }
        DUE.sentence("Term 5", "n times, 0 to 60");
        int[] seeds = {0, 1, -1, LEAST, MOST, 123456789};
        for (int seed : seeds) {
            x = Due.with(0, "open 0 0;");
            DUE.is("0 times: OPEN", x.drawn(0, seed, 0, OPEN), 1);
            DUE.is("0 times: STRENGTHS", x.drawn(0, seed, 0, ALL), 140);
            for (int n = 0; n <= 60; n++) {
                int deeds = x.drawn(0, seed, n, SLIPPED) + x.drawn(0, seed, n, BROKE) + x.drawn(0, seed, n, HELD);
                DUE.is("deeds of " + n + " by " + seed, deeds, deedsOf(seed, n));
            }
        }
    }

    private static int deedsOf(int seed, int n) {
        int[] numbers = {3, 3, 3, 1, 1, 1, 0, 0};
        int behind = 0;
        int deeds = 0;
        for (int i = 0; i < n; i++) {
            int lot = drawn(seed, behind, 8);
            deeds += lot < 3 ? 1 : 0;
            behind += 1 + numbers[lot];
        }
        return deeds;
    }

    private static void drawnDeeds() {
        DUE.sentence("Term 5", "(of 32 bits), it is x shifted right by 16 without sign, remainder by n");
        int[] from = {0, -2000000000, 2000000000, -1000, LEAST};
        for (int start : from) {
            for (int lot = 0; lot < 8; lot++) {
                oneDrawn(seedFor(lot, start), lot);
            }
        }
    }

    private static void oneDrawn(int seed, int lot) {
        switch (lot) {
            case 3:
                drawsMend(seed);
                break;
            case 4:
                drawsGrow(seed);
                break;
            case 5:
                drawsWeave(seed);
                break;
            case 6:
                drawsWinter(seed);
                break;
            case 7:
                DUE.is("wet by " + seed, Due.with(0, "").drawn(0, seed, 1, WET), 1);
                DUE.is("dry by " + seed, Due.with(0, "wet;").drawn(0, seed, 1, WET), 0);
                break;
            default:
                drawsDeed(seed);
                break;
        }
    }

    private static void drawsDeed(int seed) {
        int width = drawn(seed, 1, 4) + 1;
        int height = drawn(seed, 2, 4) + 1;
        int force = drawn(seed, 3, 40);
        WillowLaw x = Due.with(0, "size 4 4;");
        boolean breaks = force > 4 * width * height;
        DUE.is("broken by " + seed, x.drawn(0, seed, 1, BROKE), breaks ? 1 : 0);
        DUE.is("held by " + seed, x.drawn(0, seed, 1, HELD), breaks ? 0 : 1);
        DUE.is("OPEN by " + seed, x.drawn(0, seed, 1, OPEN), breaks ? width * height : 0);
        // Of no STRENGTH at all, any FORCE but 0 breaks, and its size is seen.
        WillowLaw soft = Due.with(0, "size 4 4;rod 0 0 9;rod 1 0 9;rod 2 0 9;rod 3 0 9;");
        DUE.is("OPEN of a soft one by " + seed, soft.drawn(0, seed, 1, OPEN), force > 0 ? width * height : 0);
        DUE.is("the last row by " + seed, soft.drawn(0, seed, 1, 100 + 4 * height - 4), force > 0 ? -1 : 0);
    }

    private static void drawsMend(int seed) {
        for (int high = 2; high <= 8; high++) {
            String rods = "";
            for (int r = 0; r < high; r++) {
                rods += "rod " + r + " 2 5;";
            }
            WillowLaw x = Due.with(0, "size 5 " + high + ";stake 0 2 5;" + rods);
            for (int r = 0; r < high; r++) {
                DUE.is("mend by " + seed + ", ROD " + r, x.drawn(0, seed, 1, 20 + r), r == drawn(seed, 1, high) ? 0 : 5);
            }
            DUE.is("STAKE 0", x.drawn(0, seed, 1, 40), 5);
        }
    }

    private static void drawsGrow(int seed) {
        for (int wide = 2; wide <= 8; wide++) {
            String stakes = "";
            for (int c = 0; c < wide; c++) {
                stakes += "stake " + c + " " + (c % 2 == 0 ? 8 : 9) + " 0;";
            }
            WillowLaw x = Due.with(0, "size " + wide + " 5;" + stakes);
            for (int c = 0; c < wide; c++) {
                boolean grows = c % 2 == 0 && c == drawn(seed, 1, wide);
                DUE.is("grow by " + seed + ", STAKE " + c, x.drawn(0, seed, 1, 30 + c), grows || c % 2 == 1 ? 9 : 8);
            }
            DUE.is("ROD 0", x.drawn(0, seed, 1, 10), 2);
        }
    }

    private static void drawsWeave(int seed) {
        String open = "size 5 4;";
        for (int s = 0; s < 20; s++) {
            open += "open " + s % 5 + " " + s / 5 + ";";
        }
        WillowLaw x = Due.with(0, open);
        DUE.is("weave by " + seed, x.drawn(0, seed, 1, OPEN), 19);
        DUE.is("the STROKE by " + seed, x.drawn(0, seed, 1, 100 + drawn(seed, 1, 20)), 4);
        DUE.is("none to weave by " + seed, Due.with(0, "size 5 4;").drawn(0, seed, 1, ALL), 80);
    }

    private static void drawsWinter(int seed) {
        WillowLaw x = Due.with(0, "size 8 8;rod 7 2 9;");
        DUE.is("winter by " + seed, x.drawn(0, seed, 1, 20), 1);
        DUE.is("winter by " + seed + ", STAKE 7", x.drawn(0, seed, 1, 47), 1);
        DUE.is("winter by " + seed + ", 9 at most", x.drawn(0, seed, 1, 27), 9);
    }

    private static void eachIfItMay() {
        DUE.sentence("Term 5", "each, if it may");
        // A second number is drawn behind a DEED that may not be: the next lot tells.
        for (int seed = -400; seed < 400; seed++) {
            int lot = drawn(seed, 0, 8);
            boolean one = lot == 4 || lot == 5;
            if (one && drawn(seed, 2, 8) == 6) {
                WillowLaw nine = Due.with(0, "stake 0 9 0;stake 1 9 0;stake 2 9 0;stake 3 9 0;stake 4 9 0;stake 5 9 0;");
                DUE.is("a winter behind by " + seed, nine.drawn(0, seed, 2, 20), 1);
                DUE.is("nothing before by " + seed, nine.drawn(0, seed, 1, ALL), 36 * 11);
                DUE.is("THICK by " + seed, nine.drawn(0, seed, 2, 30 + drawn(seed, 1, 6)), 9);
            }
        }
        DUE.is("the BASKET stays as told", drawnOnce(), 2);
    }

    private static int drawnOnce() {
        WillowLaw x = Due.with(0, "size 2 2;open 0 0;open 1 1;");
        x.drawn(0, 5, 60, 0);
        return x.basket(0, 3);
    }

    public static void main(String[] args) {
        deed();
        noneSuch();
        slips();
        breaks();
        careOfTwigs();
        weaving();
        deedsThatCannotBe();
        states();
        precedent();
        drawnEdges();
        drawnDeeds();
        eachIfItMay();
        DUE.finish();
    }
}
