/** Terms 1 to 3 and 6, promises 6, 7, 11 to 17 and 25 to 28: a test for each sentence that names an edge. */
public final class BasketEdgesTest {
    private static final Due DUE = new Due("BasketEdgesTest");
    private static final int LEAST = Integer.MIN_VALUE;
    private static final int MOST = Integer.MAX_VALUE;
    private static final int[][] SIZES = {{2, 2}, {2, 8}, {8, 2}, {8, 8}, {5, 3}, {6, 6}};
    private static final int[] NO_SIDE = {LEAST, -2, -1, 0, 9, 10, 64, MOST};

    private static String size(int wide, int high) {
        return "size " + wide + " " + high + ";";
    }

    /** STROKES by their numbers as lines of a text. */
    private static String open(int wide, int... strokes) {
        StringBuilder lines = new StringBuilder();
        for (int s : strokes) {
            lines.append("open ").append(s % wide).append(' ').append(s / wide).append(';');
        }
        return lines.toString();
    }

    private static String allOpen(int wide, int high) {
        int[] all = new int[wide * high];
        for (int s = 0; s < all.length; s++) {
            all[s] = s;
        }
        return size(wide, high) + open(wide, all);
    }

    private static WillowLaw with(int wide, int high, int... strokes) {
        return Due.with(0, size(wide, high) + open(wide, strokes));
    }

    private static String thick(String side, int many, int thick) {
        StringBuilder lines = new StringBuilder();
        for (int i = 0; i < many; i++) {
            lines.append(side).append(' ').append(i).append(' ').append(thick).append(" 0;");
        }
        return lines.toString();
    }

    // ---- promise 6 ----

    private static boolean tells(int wide, int high, int what) {
        boolean ofRod = what >= 10 && what < 10 + high || what >= 20 && what < 20 + high;
        boolean ofStake = what >= 30 && what < 30 + wide || what >= 40 && what < 40 + wide;
        return what >= 0 && what <= 3 || ofRod || ofStake || what >= 100 && what < 100 + wide * high;
    }

    private static void basket() {
        DUE.sentence("Promise 6", "-2: there is none such (of any), or for another what");
        for (int[] s : SIZES) {
            WillowLaw x = with(s[0], s[1]);
            for (int what = -30; what < 300; what++) {
                DUE.is("basket(0, " + what + ") of " + s[0] + " " + s[1], x.basket(0, what) != -2, tells(s[0], s[1], what));
            }
            int[] far = {1000, LEAST, LEAST + 100, MOST, MOST - 99, -100};
            for (int what : far) {
                DUE.is("basket(0, " + what + ")", x.basket(0, what), -2);
            }
        }
        DUE.sentence("Promise 6", "100 + s: STRENGTH of a STROKE (NONE: it is OPEN)");
        WillowLaw x = with(8, 8, 0, 7, 56, 63);
        DUE.is("the first", x.basket(0, 100), -1);
        DUE.is("the next", x.basket(0, 101), 4);
        DUE.is("the first row's last", x.basket(0, 107), -1);
        DUE.is("the last row's first", x.basket(0, 156), -1);
        DUE.is("the last", x.basket(0, 163), -1);
        DUE.is("OPEN, though of no STRENGTH", Due.with(0, "rod 0 0 9;open 0 0;").basket(0, 100), -1);
        DUE.is("of no STRENGTH, though not OPEN", Due.with(0, "rod 0 0 9;open 0 0;").basket(0, 101), 0);
        DUE.sentence("Promise 6", "2: 1 if it is WET, else 0, 3: how many STROKES are OPEN");
        DUE.is("not WET", x.basket(0, 2), 0);
        DUE.is("WET", Due.with(0, "wet;").basket(0, 2), 1);
        DUE.is("four OPEN", x.basket(0, 3), 4);
        DUE.is("none OPEN", Due.with(0, "").basket(0, 3), 0);
        DUE.is("all OPEN", Due.with(0, allOpen(8, 8)).basket(0, 3), 64);
    }

    // ---- a BASKET that is not there ----

    private static long[] answers(WillowLaw x, int promise, int b) {
        switch (promise) {
            case 6:
                return new long[] {x.basket(b, 0), x.basket(b, 3), x.basket(b, 10), x.basket(b, 100)};
            case 7:
                return new long[] {x.slips(b, 1, 1, false), x.slips(b, 1, 1, true)};
            case 11:
                return new long[] {x.opens(b, 1, 1, false), x.opens(b, 1, 1, true)};
            case 12:
                return new long[] {x.closes(b, 1, 1, -1), x.closes(b, 1, 1, 0)};
            case 13:
                return new long[] {x.sieve(b, 1, 1, 2, 2)};
            case 14:
                return new long[] {x.escape(b, 0, false), x.escape(b, 0, true)};
            case 15:
                return new long[] {x.holes(b, 0), x.holes(b, 1), x.holes(b, 2)};
            case 16:
                return new long[] {x.last(b, 0, 0), x.last(b, 0, 1), x.last(b, 0, 2)};
            case 17:
                return new long[] {x.unlike(b, 0, false), x.unlike(0, b, false), x.unlike(b, b, false), x.unlike(b, 0, true),
                    x.unlike(0, b, true), x.unlike(b, b, true)};
            case 25:
                return new long[] {x.stout(b, 1, 1, false), x.stout(b, 1, 1, true)};
            case 26:
                return new long[] {x.soft(b, 1, false), x.soft(b, 1, true)};
            case 27:
                return new long[] {x.tunnel(b, 0, 0)};
            default:
                return new long[] {x.mirrored(b, 0), x.mirrored(b, 1), x.mirrored(b, 2)};
        }
    }

    private static void noBasket() {
        int[] promises = {6, 7, 11, 12, 13, 14, 15, 16, 17, 25, 26, 27, 28};
        for (int promise : promises) {
            DUE.sentence("Promise " + promise, "there is none such");
            int due = promise == 6 || promise == 7 || promise == 17 ? -2 : -1;
            for (int many = 0; many < 3; many++) {
                WillowLaw x = new WillowLaw();
                for (int i = 0; i < many; i++) {
                    x.text(0, -1);
                }
                int[] at = {-1, -2, many, many + 1, 2, LEAST, MOST};
                for (int b : at) {
                    for (long is : answers(x, promise, b)) {
                        DUE.is("BASKET " + b + " of " + many, is, due);
                    }
                }
            }
        }
        DUE.sentence("Term 1", "BASKETS, at most 2 (sort 0), from 0 on");
        WillowLaw x = with(2, 2, 0);
        x.text(0, -1);
        DUE.is("BASKET 1 is there", x.basket(1, 0), 6);
        DUE.is("BASKET 1 by itself", x.slips(1, 1, 1, false), -1);
        DUE.is("BASKET 0 by itself", x.slips(0, 1, 1, false), 0);
    }

    // ---- another size ----

    private static long[] answersTo(WillowLaw x, int promise, int w, int h) {
        switch (promise) {
            case 7:
                return new long[] {x.slips(0, w, h, false), x.slips(0, w, h, true)};
            case 11:
                return new long[] {x.opens(0, w, h, false), x.opens(0, w, h, true)};
            case 12:
                return new long[] {x.closes(0, w, h, -1), x.closes(0, w, h, 0)};
            case 13:
                return new long[] {x.sieve(0, w, h, 8, 8), x.sieve(0, 1, 1, w, h), x.sieve(0, w, h, w, h)};
            default:
                return new long[] {x.stout(0, w, h, false), x.stout(0, w, h, true)};
        }
    }

    private static void sizesAre(WillowLaw x, int promise, int w, int h) {
        for (long is : answersTo(x, promise, w, h)) {
            DUE.is("of " + w + " " + h, is, promise == 7 ? -2 : -1);
        }
    }

    private static void anotherSize() {
        int[] promises = {7, 11, 12, 13, 25};
        for (int promise : promises) {
            DUE.sentence("Promise " + promise, "or another size");
            for (int no : NO_SIDE) {
                WillowLaw closed = with(8, 8);
                WillowLaw open = Due.with(0, allOpen(2, 2));
                for (int side = 1; side <= 8; side++) {
                    sizesAre(closed, promise, no, side);
                    sizesAre(closed, promise, side, no);
                    sizesAre(open, promise, no, side);
                    sizesAre(open, promise, side, no);
                }
                for (int other : NO_SIDE) {
                    sizesAre(closed, promise, no, other);
                }
            }
        }
        DUE.sentence("Promise 7", "another size (1 to 8 each way)");
        WillowLaw closed = with(8, 8);
        for (int w = 1; w <= 8; w++) {
            for (int h = 1; h <= 8; h++) {
                DUE.is("slips of a size", closed.slips(0, w, h, false), -1);
                DUE.is("HOLD of a size", closed.slips(0, w, h, true), 4 * w * h);
                DUE.is("opens of a size", closed.opens(0, w, h, false), w * h);
                DUE.is("opens of a size, place", closed.opens(0, w, h, true), 0);
                DUE.is("closes of a size", closed.closes(0, w, h, -1), 0);
            }
        }
    }

    private static void widerOrHigher() {
        DUE.sentence("Promise 7, Term 2", "NONE: it SLIPS, or is wider or higher (none, if it is wider or higher than the BASKET)");
        for (int[] s : SIZES) {
            WillowLaw x = with(s[0], s[1]);
            WillowLaw y = Due.with(0, allOpen(s[0], s[1]));
            for (int w = 1; w <= 8; w++) {
                for (int h = 1; h <= 8; h++) {
                    boolean fits = w <= s[0] && h <= s[1];
                    String of = " of " + w + " " + h + " in " + s[0] + " " + s[1];
                    DUE.is("HOLD, all shut," + of, x.slips(0, w, h, true), fits ? 4 * w * h : -1);
                    DUE.is("place, all shut," + of, x.slips(0, w, h, false), -1);
                    DUE.is("HOLD, all OPEN," + of, y.slips(0, w, h, true), -1);
                    DUE.is("place, all OPEN," + of, y.slips(0, w, h, false), fits ? 0 : -1);
                }
            }
        }
        DUE.sentence("Promise 11", "NONE: it is wider or higher");
        for (int[] s : SIZES) {
            WillowLaw x = with(s[0], s[1], 0);
            for (int w = 1; w <= 8; w++) {
                for (int h = 1; h <= 8; h++) {
                    boolean fits = w <= s[0] && h <= s[1];
                    DUE.is("opens of " + w + " " + h, x.opens(0, w, h, false), fits ? w * h - 1 : -1);
                    DUE.is("its place", x.opens(0, w, h, true), fits ? 0 : -1);
                }
            }
        }
        DUE.sentence("Promise 25", "NONE: it is wider or higher");
        for (int[] s : SIZES) {
            WillowLaw x = with(s[0], s[1]);
            for (int i = 1; i <= 8; i++) {
                DUE.is("stout of " + i + " wide in " + s[0], x.stout(0, i, 1, true) == -1, i > s[0]);
                DUE.is("stout of " + i + " high in " + s[1], x.stout(0, 1, i, false) == -1, i > s[1]);
            }
        }
    }

    // ---- promise 7 ----

    private static void places() {
        DUE.sentence("Term 2", "of several places the first, by the STROKE in its upper left corner");
        DUE.is("a row above goes first", with(8, 8, 7, 8).slips(0, 1, 1, false), 7);
        DUE.is("of one row the left one", with(8, 8, 61, 62, 63).slips(0, 1, 1, false), 61);
        DUE.is("two that share STROKES", with(4, 2, 1, 2, 3).slips(0, 2, 1, false), 1);
        DUE.is("the corner, not the nearest", with(3, 4, 2, 5, 6, 9).slips(0, 1, 2, false), 2);
        DUE.is("the last STROKE", with(8, 8, 63).slips(0, 1, 1, false), 63);
        DUE.is("the last corner", with(8, 8, 54, 55, 62, 63).slips(0, 2, 2, false), 54);
        DUE.sentence("Term 2", "(it is not turned)");
        DUE.is("1 3 of a row of three", with(3, 3, 3, 4, 5).slips(0, 1, 3, false), -1);
        DUE.is("3 1 of a row of three", with(3, 3, 3, 4, 5).slips(0, 3, 1, false), 3);
        DUE.is("3 1 of a column of three", with(3, 3, 1, 4, 7).slips(0, 3, 1, false), -1);
        DUE.is("1 3 of a column of three", with(3, 3, 1, 4, 7).slips(0, 1, 3, false), 1);
        DUE.sentence("Term 2", "a rectangle of so many columns and rows, all of whose STROKES are OPEN");
        DUE.is("the end of a row and the next one's begin", with(4, 3, 3, 4).slips(0, 2, 1, false), -1);
        DUE.is("the same, of eight", with(8, 3, 7, 8).slips(0, 2, 1, false), -1);
        DUE.is("three of four", with(2, 2, 0, 1, 2).slips(0, 2, 2, false), -1);
        DUE.is("corners alone", with(3, 3, 0, 2, 6, 8).slips(0, 3, 3, false), -1);
        DUE.is("a place that is cut off by the lowest row", with(4, 3, 9, 10).slips(0, 2, 2, false), -1);
    }

    private static void holds() {
        DUE.sentence("Term 2", "its HOLD is the least STRENGTH of all STROKES together, that are not OPEN, of a rectangle of its size");
        DUE.is("OPEN ones count nothing", with(2, 2, 0, 3).slips(0, 2, 2, true), 8);
        DUE.is("one is left", with(2, 2, 0, 1, 2).slips(0, 2, 2, true), 4);
        DUE.is("the softest is the last", Due.with(0, "size 8 8;stake 7 1 0;rod 7 1 0;").slips(0, 1, 1, true), 2);
        DUE.is("the softest is the first", Due.with(0, "size 8 8;stake 0 1 0;rod 0 1 0;").slips(0, 1, 1, true), 2);
        DUE.is("0", Due.with(0, "rod 3 0 9;").slips(0, 6, 1, true), 0);
        DUE.is("the whole of 8 8", Due.with(0, size(8, 8) + thick("rod", 8, 9) + thick("stake", 8, 9)).slips(0, 8, 8, true),
            64 * 18);
        DUE.is("each by itself is halved", Due.with(0, "size 2 2;rod 0 3 0;rod 1 3 0;wet;").slips(0, 2, 2, true), 8);
        DUE.is("not from row to row", Due.with(0, "size 3 2;stake 2 0 0;stake 0 0 0;").slips(0, 2, 1, true), 6);
    }

    // ---- promises 11 to 13 ----

    private static void opens() {
        DUE.sentence("Term 3", "OPENS of a size: the fewest STROKES that are to be opened so that it SLIPS");
        DUE.is("none", with(3, 3, 4).opens(0, 1, 1, false), 0);
        DUE.is("all", with(3, 3).opens(0, 3, 3, false), 9);
        DUE.is("by STROKES, whatever their STRENGTH",
            Due.with(0, "size 3 2;rod 0 9 0;rod 1 0 9;open 0 0;").opens(0, 2, 1, true), 0);
        DUE.is("the last corner", with(8, 8, 63).opens(0, 2, 2, true), 54);
        DUE.is("the last corner's", with(8, 8, 63).opens(0, 2, 2, false), 3);
        DUE.sentence("Term 3", "the place, of several the first");
        DUE.is("all shut", with(8, 8).opens(0, 1, 1, true), 0);
        DUE.is("around one", with(5, 5, 12).opens(0, 2, 2, true), 6);
        DUE.is("it SLIPS by two", with(5, 5, 12, 20).opens(0, 1, 1, true), 12);
        DUE.is("one to be opened at 0, none at 2", with(4, 2, 0, 2, 3).opens(0, 2, 1, true), 2);
        DUE.is("in the row above", with(4, 2, 3, 4).opens(0, 1, 2, true), 0);
    }

    private static void closesAre(WillowLaw x, int w, int h, int... due) {
        DUE.is("closes of " + w + " " + h, x.closes(0, w, h, -1), due.length);
        for (int k = 0; k < due.length; k++) {
            DUE.is("the " + k + ". of " + w + " " + h, x.closes(0, w, h, k), due[k]);
        }
        int[] no = {due.length, due.length + 1, 3, 4, -2, -3, LEAST, MOST};
        for (int k : no) {
            DUE.is("closes of " + w + " " + h + ", k " + k, x.closes(0, w, h, k), -1);
        }
    }

    private static void notByThree(WillowLaw x, int w, int h) {
        for (int k = -2; k < 5; k++) {
            DUE.is("closes of " + w + " " + h + ", k " + k, x.closes(0, w, h, k), -1);
        }
    }

    private static void closes() {
        DUE.sentence("Promise 12, Term 3", "the fewest OPEN STROKES that are to be closed, 3 at most .. NONE: not so many");
        closesAre(with(8, 8), 1, 1);
        closesAre(with(2, 2, 0, 1), 2, 2);
        closesAre(with(2, 2, 0, 1), 1, 2);
        closesAre(with(2, 2, 0, 1), 8, 1);
        closesAre(with(8, 8, 63), 1, 1, 63);
        closesAre(with(8, 8, 0, 63), 1, 1, 0, 63);
        closesAre(with(8, 8, 0, 7, 63), 1, 1, 0, 7, 63);
        DUE.sentence("Promise 12", "NONE: not by 3");
        notByThree(with(8, 8, 0, 7, 56, 63), 1, 1);
        notByThree(Due.with(0, allOpen(8, 8)), 2, 2);
        notByThree(with(8, 2, 0, 1, 2, 3, 4, 5, 6, 7), 2, 1);
        DUE.sentence("Term 3", "the first row of them, rising, by numbers");
        closesAre(with(3, 2, 0, 1, 2), 2, 1, 1);
        closesAre(with(4, 2, 0, 1, 2, 3), 2, 1, 0, 2);
        closesAre(with(6, 2, 0, 1, 2, 3, 4, 5), 2, 1, 0, 2, 4);
        closesAre(with(7, 2, 0, 1, 2, 3, 4, 5, 6), 2, 1, 1, 3, 5);
        closesAre(Due.with(0, allOpen(2, 2)), 2, 2, 0);
        closesAre(Due.with(0, allOpen(2, 2)), 1, 2, 0, 1);
        closesAre(Due.with(0, allOpen(3, 3)), 2, 2, 4);
        closesAre(Due.with(0, allOpen(3, 3)), 3, 1, 0, 3, 6);
        closesAre(Due.with(0, allOpen(3, 3)), 1, 3, 0, 1, 2);
        closesAre(Due.with(0, allOpen(8, 8)), 8, 8, 0);
        closesAre(Due.with(0, allOpen(8, 8)), 7, 7, 9);
        closesAre(Due.with(0, allOpen(8, 8)), 5, 5, 27);
        closesAre(Due.with(0, allOpen(8, 8)), 5, 4, 3, 35);
        WillowLaw asked = Due.with(0, allOpen(3, 3));
        notByThree(asked, 1, 1);
        closesAre(asked, 2, 2, 4);
        closesAre(asked, 3, 1, 0, 3, 6);
        closesAre(asked, 3, 3, 0);
        closesAre(asked, 4, 1);
        closesAre(asked, 1, 3, 0, 1, 2);
    }

    private static void sieve() {
        DUE.sentence("Promise 13", "NONE: by none");
        for (int w = 1; w <= 8; w++) {
            DUE.is("a size and itself", with(8, 8).sieve(0, w, w, w, w), -1);
        }
        DUE.is("the other one SLIPS already", with(3, 3, 4).sieve(0, 2, 1, 1, 1), -1);
        DUE.is("what holds the other one", with(3, 3).sieve(0, 2, 2, 1, 1), -1);
        DUE.is("wider", with(3, 3).sieve(0, 4, 1, 8, 8), -1);
        DUE.is("higher", with(3, 3).sieve(0, 1, 4, 8, 8), -1);
        DUE.is("all RODS would be needed", with(3, 3).sieve(0, 1, 3, 3, 2), -1);
        DUE.sentence("Term 3", "SIEVE of two sizes: the fewest RODS (bits of rows; of several the least)");
        DUE.is("none needed", with(3, 3, 4).sieve(0, 1, 1, 2, 1), 0);
        DUE.is("one of eight", with(8, 8).sieve(0, 8, 1, 1, 2), 1);
        DUE.is("seven of eight", with(8, 8).sieve(0, 8, 7, 8, 8), 127);
        DUE.is("all eight", with(7, 8).sieve(0, 7, 8, 8, 1), 255);
        DUE.is("both of two", with(2, 2).sieve(0, 2, 2, 3, 1), 3);
        DUE.is("one, though it is a greater number", with(2, 8, 14).sieve(0, 1, 2, 8, 8), 64);
        DUE.is("the least of one", with(2, 8, 6, 12).sieve(0, 1, 2, 8, 8), 4);
        DUE.is("the other one wider: it never SLIPS", with(3, 3).sieve(0, 3, 3, 4, 1), 7);
        DUE.is("one beside an OPEN one would let the other through", with(2, 4, 2).sieve(0, 2, 1, 1, 2), 2);
        DUE.is("a least one that is no neighbour", with(2, 4, 0).sieve(0, 2, 1, 1, 2), 1);
    }

    // ---- promises 14, 27, 15 ----

    private static void escape() {
        DUE.sentence("Promise 14", "NONE: there is none such (of either)");
        for (int[] s : SIZES) {
            WillowLaw x = with(s[0], s[1]);
            int[] no = {-1, -2, s[0] * s[1], s[0] * s[1] + 1, 64, LEAST, MOST};
            for (int stroke : no) {
                DUE.is("escape from " + stroke, x.escape(0, stroke, false), -1);
                DUE.is("escape from " + stroke + ", steps", x.escape(0, stroke, true), -1);
            }
            DUE.is("from the last", x.escape(0, s[0] * s[1] - 1, false), 4);
            DUE.is("from the last, steps", x.escape(0, s[0] * s[1] - 1, true), 1);
        }
        DUE.sentence("Term 3", "to one in the first or last row or column");
        WillowLaw x = with(5, 4);
        for (int s = 0; s < 20; s++) {
            boolean inside = s % 5 > 0 && s % 5 < 4 && s / 5 > 0 && s / 5 < 3;
            DUE.is("from " + s + " of 5 4", x.escape(0, s, false), inside ? 8 : 4);
            DUE.is("from " + s + " of 5 4, steps", x.escape(0, s, true), inside ? 2 : 1);
        }
        DUE.sentence("Term 3", "each costing its STRENGTH (the first and the last, too; an OPEN one nothing)");
        DUE.is("at the rim, OPEN", with(3, 3, 1).escape(0, 1, false), 0);
        DUE.is("at the rim, OPEN, steps", with(3, 3, 1).escape(0, 1, true), 1);
        DUE.is("from an OPEN one to a shut one", with(3, 3, 4).escape(0, 4, false), 4);
        DUE.is("from a shut one to an OPEN one", with(3, 3, 1).escape(0, 4, false), 4);
        int[] ends = {1, 3, 5, 7};
        for (int end : ends) {
            DUE.is("from OPEN to OPEN at " + end, with(3, 3, 4, end).escape(0, 4, false), 0);
        }
        DUE.is("not by a corner", with(3, 3, 4, 0, 2, 6, 8).escape(0, 4, false), 4);
        DUE.is("dear ones", Due.with(0, size(8, 8) + thick("rod", 8, 9) + thick("stake", 8, 9)).escape(0, 27, false), 72);
        DUE.sentence("Term 3", "the fewest STROKES of a way that costs no more (both ends counted)");
        WillowLaw free = Due.with(0, size(8, 8) + thick("rod", 8, 0) + thick("stake", 8, 0));
        DUE.is("all cost nothing", free.escape(0, 27, false), 0);
        DUE.is("all cost nothing, steps", free.escape(0, 27, true), 4);
        DUE.is("all cost nothing, nearer", free.escape(0, 9, true), 2);
        // The short way costs 12, the long OPEN one nothing.
        WillowLaw round = with(7, 7, 24, 25, 26, 33, 40, 39, 46);
        DUE.is("a long way that costs less", round.escape(0, 24, false), 0);
        DUE.is("a long way that costs less, steps", round.escape(0, 24, true), 7);
        DUE.is("two OPEN ways, the shorter", with(5, 5, 12, 7, 2, 13, 8, 3).escape(0, 12, true), 3);
    }

    private static void tunnel() {
        DUE.sentence("Promise 27", "NONE: there is none such (of any)");
        for (int[] s : SIZES) {
            WillowLaw x = with(s[0], s[1]);
            int last = s[0] * s[1] - 1;
            int[] no = {-1, -2, last + 1, 64, LEAST, MOST};
            for (int stroke : no) {
                DUE.is("from " + stroke, x.tunnel(0, stroke, 0), -1);
                DUE.is("to " + stroke, x.tunnel(0, 0, stroke), -1);
                DUE.is("from and to " + stroke, x.tunnel(0, stroke, stroke), -1);
            }
            DUE.is("from the first to the last", x.tunnel(0, 0, last), 4 * (s[0] + s[1] - 1));
            DUE.is("from the last to the first", x.tunnel(0, last, 0), 4 * (s[0] + s[1] - 1));
        }
        DUE.sentence("Term 6", "TUNNEL: the least FORCE of a way, as in ESCAPE (both ends counted)");
        WillowLaw x = with(3, 3, 4);
        DUE.is("from a STROKE to itself, once", x.tunnel(0, 0, 0), 4);
        DUE.is("from an OPEN one to itself", x.tunnel(0, 4, 4), 0);
        DUE.is("side by side", x.tunnel(0, 0, 1), 8);
        DUE.is("to an OPEN one", x.tunnel(0, 1, 4), 4);
        DUE.is("across", x.tunnel(0, 1, 7), 8);
        DUE.is("not by a corner", x.tunnel(0, 0, 4), 8);
        DUE.is("not from a row's end to the next", x.tunnel(0, 2, 3), 12);
        DUE.is("around", with(8, 3, 1, 2, 3, 4, 5, 6, 7, 15, 23, 22, 21, 20, 19, 18, 17, 16).tunnel(0, 0, 8), 8);
        DUE.is("around, by a long OPEN way", with(4, 3, 0, 1, 2, 3, 7, 8, 9, 10, 11).tunnel(0, 0, 8), 0);
    }

    private static void holesAre(WillowLaw x, int parts, int largest, int rectangle) {
        DUE.is("HOLES", x.holes(0, 0), parts);
        DUE.is("the largest", x.holes(0, 1), largest);
        DUE.is("LARGEST", x.holes(0, 2), rectangle);
    }

    private static void holes() {
        DUE.sentence("Promise 15", "or for another what");
        int[] no = {-1, -2, 3, 4, 100, LEAST, MOST};
        for (int what : no) {
            DUE.is("holes(0, " + what + ")", Due.with(0, allOpen(3, 3)).holes(0, what), -1);
        }
        DUE.sentence("Term 3", "HOLES: how many parts OPEN STROKES have (joined up, down, left, right); the largest");
        holesAre(with(8, 8), 0, 0, 0);
        holesAre(Due.with(0, allOpen(8, 8)), 1, 64, 64);
        holesAre(Due.with(0, allOpen(2, 2)), 1, 4, 4);
        holesAre(with(3, 3, 0, 2, 4, 6, 8), 5, 1, 1);
        holesAre(with(8, 8, 7, 8), 2, 1, 1);
        holesAre(with(8, 8, 55, 56), 2, 1, 1);
        holesAre(with(8, 8, 0, 7, 56, 63), 4, 1, 1);
        holesAre(with(4, 3, 3, 4), 2, 1, 1);
        holesAre(with(4, 4, 0, 1, 5, 6, 10, 11, 15), 1, 7, 2);
        holesAre(with(3, 3, 0, 1, 2, 5, 8, 7, 6), 1, 7, 3);
        DUE.sentence("Term 3", "LARGEST: the most STROKES of a rectangle all of whose STROKES are OPEN");
        holesAre(with(4, 4, 0, 1, 2, 3, 8, 9, 12, 13), 2, 4, 4);
        holesAre(with(4, 4, 0, 1, 4, 5, 8, 9, 12, 13, 2, 3), 1, 10, 8);
        holesAre(with(5, 2, 0, 1, 2, 3, 4, 5, 6), 1, 7, 5);
    }

    // ---- promises 16, 17 ----

    private static void lastIs(WillowLaw x, int n, long likely, long all, int rods) {
        DUE.is("last of " + n + ", N", x.last(0, n, 0), likely);
        DUE.is("last of " + n + ", D", x.last(0, n, 1), all);
        DUE.is("last of " + n + ", RODS", x.last(0, n, 2), rods);
    }

    private static void last() {
        DUE.sentence("Promise 16", "NONE: another n, or for another what");
        WillowLaw x = with(2, 8);
        int[] noN = {-1, -2, 9, 10, LEAST, MOST};
        for (int n : noN) {
            for (int what = 0; what < 3; what++) {
                DUE.is("last(0, " + n + ", " + what + ")", x.last(0, n, what), -1);
            }
        }
        int[] noWhat = {-1, -2, 3, 4, LEAST, MOST};
        for (int what : noWhat) {
            DUE.is("last(0, 0, " + what + ")", x.last(0, 0, what), -1);
            DUE.is("last(0, 8, " + what + ")", x.last(0, 8, what), -1);
        }
        DUE.sentence("Term 3", "LAST of n, 0 .. 8: each ROD breaks in a winter by WEAR of ten");
        for (int n = 0; n <= 8; n++) {
            lastIs(x, n, 1, 1, 0);
        }
        StringBuilder worn = new StringBuilder("size 2 8;stake 0 2 9;stake 1 2 9;");
        for (int i = 0; i < 8; i++) {
            worn.append("rod ").append(i).append(" 2 9;");
        }
        WillowLaw nine = Due.with(0, worn.toString());
        long all = 100000000;
        for (int n = 0; n <= 8; n++) {
            lastIs(nine, n, 1, all, (1 << n) - 1);
            all /= 10;
        }
        DUE.sentence("Term 3", "a fraction in least terms");
        lastIs(Due.with(0, "size 2 2;rod 0 2 5;rod 1 2 8;"), 0, 1, 10, 0);
        lastIs(Due.with(0, "size 2 2;rod 0 2 5;rod 1 2 8;"), 1, 1, 2, 2);
        lastIs(Due.with(0, "size 2 2;rod 0 2 7;rod 1 2 7;"), 0, 9, 100, 0);
        lastIs(Due.with(0, "size 2 2;rod 0 2 4;rod 1 2 6;"), 0, 6, 25, 0);
        DUE.sentence("Term 3", "those RODS (bits; the fewest, of several the least)");
        WillowLaw some = Due.with(0, "size 2 8;rod 7 2 3;rod 5 2 3;rod 6 2 4;");
        lastIs(some, 0, 147, 500, 0);
        lastIs(some, 1, 49, 100, 64);
        lastIs(some, 2, 7, 10, 96);
        for (int n = 3; n <= 8; n++) {
            lastIs(some, n, 1, 1, 224);
        }
        lastIs(Due.with(0, "size 2 2;rod 0 2 1;"), 8, 1, 1, 1);
    }

    private static WillowLaw two(String one, String other) {
        WillowLaw x = Due.with(0, one);
        Due.text(x, 0, -1, other);
        return x;
    }

    private static void unlikeIs(WillowLaw x, int many, int stricter, int about) {
        DUE.is("unlike(0, 1)", x.unlike(0, 1, false), many);
        DUE.is("unlike(1, 0)", x.unlike(1, 0, false), many);
        DUE.is("stricter(0, 1)", x.unlike(0, 1, true), stricter);
        DUE.is("stricter(1, 0)", x.unlike(1, 0, true), about);
        DUE.is("unlike(1, 1)", x.unlike(1, 1, false), 0);
        DUE.is("stricter(1, 1)", x.unlike(1, 1, true), 2);
    }

    private static void unlike() {
        DUE.sentence("Term 3", "UNLIKE: of how many sizes, 1 to 8 each way, one SLIPS through one of them alone");
        unlikeIs(two(allOpen(8, 8), "size 2 2;"), 64, 1, 0);
        unlikeIs(two("size 2 2;", allOpen(8, 8)), 64, 0, 1);
        unlikeIs(two(allOpen(2, 8), allOpen(8, 2)), 24, -1, -1);
        DUE.sentence("Term 3", "STRICTER: 0 if each size that SLIPS through the first does through the second, 1 .., 2 .., NONE if neither");
        unlikeIs(two("", ""), 0, 2, 2);
        unlikeIs(two("size 2 2;open 0 0;", "size 8 8;open 7 7;open 5 5;"), 0, 2, 2);
        unlikeIs(two("size 2 2;open 0 0;", "size 2 2;open 0 0;open 1 0;"), 1, 0, 1);
        unlikeIs(two("size 2 2;open 0 0;open 0 1;", "size 2 2;open 0 0;open 1 0;"), 2, -1, -1);
    }

    // ---- promises 25, 26, 28 ----

    private static void stoutIs(WillowLaw x, int w, int h, int number, int hold) {
        DUE.is("stout of " + w + " " + h, x.stout(0, w, h, false), number);
        DUE.is("stout of " + w + " " + h + ", HOLD", x.stout(0, w, h, true), hold);
    }

    private static void stout() {
        DUE.sentence("Promise 25", "NONE: it SLIPS");
        stoutIs(with(3, 3, 4), 1, 1, -1, -1);
        stoutIs(with(3, 3, 3, 4, 5), 3, 1, -1, -1);
        stoutIs(Due.with(0, allOpen(3, 3)), 2, 2, -1, -1);
        DUE.sentence("Promise 25", "NONE: all are 9");
        String nines = thick("rod", 2, 9) + thick("stake", 2, 9);
        stoutIs(Due.with(0, "size 2 2;" + nines), 1, 1, -1, -1);
        stoutIs(Due.with(0, "size 2 2;" + nines), 2, 2, -1, -1);
        stoutIs(Due.with(0, "size 8 2;" + thick("rod", 2, 9) + thick("stake", 8, 9)), 1, 1, -1, -1);
        stoutIs(Due.with(0, "size 2 8;" + thick("rod", 8, 9) + thick("stake", 2, 9)), 1, 1, -1, -1);
        DUE.sentence("Term 6", "(one that is 9 can't)");
        stoutIs(Due.with(0, "size 2 2;" + nines + "stake 1 8 0;"), 2, 2, 9, 72);
        stoutIs(Due.with(0, "size 2 2;" + nines + "rod 1 8 0;"), 2, 2, 1, 72);
        stoutIs(Due.with(0, "size 8 8;" + thick("rod", 8, 9) + thick("stake", 7, 9) + "stake 7 8 0;"), 8, 8, 15, 64 * 18);
        stoutIs(Due.with(0, "size 8 8;" + thick("rod", 7, 9) + thick("stake", 8, 9) + "rod 7 8 0;"), 8, 8, 7, 64 * 18);
        DUE.sentence("Term 6", "its HOLD is greatest: its number, a STAKE's 8 more, of several the least; that HOLD");
        stoutIs(with(2, 2), 2, 2, 0, 18);
        stoutIs(with(8, 8), 8, 8, 0, 64 * 4 + 8);
        stoutIs(with(8, 2), 8, 2, 0, 64 + 8);
        stoutIs(with(2, 8), 2, 8, 8, 64 + 8);
        stoutIs(with(3, 3), 1, 1, 0, 4);
        stoutIs(Due.with(0, "size 3 3;rod 1 1 0;"), 3, 1, 1, 12);
        stoutIs(Due.with(0, "size 3 3;stake 2 1 0;"), 1, 3, 10, 12);
        stoutIs(Due.with(0, "size 2 8;rod 5 1 0;"), 2, 1, 5, 8);
        stoutIs(Due.with(0, "size 8 2;stake 5 1 0;"), 1, 2, 13, 8);
        stoutIs(Due.with(0, "size 2 2;rod 0 0 9;rod 1 0 9;"), 2, 2, 0, 0);
        stoutIs(Due.with(0, "size 2 2;wet;"), 2, 2, 0, 8);
        stoutIs(Due.with(0, "size 2 2;rod 0 3 0;rod 1 3 0;wet;"), 2, 2, 0, 10);
        DUE.is("THICK is as told behind it", with(2, 2).basket(0, 10), 2);
    }

    private static void softIs(WillowLaw x, int n, int size, int hold) {
        DUE.is("soft of " + n, x.soft(0, n, false), size);
        DUE.is("soft of " + n + ", HOLD", x.soft(0, n, true), hold);
    }

    private static void soft() {
        DUE.sentence("Promise 26", "NONE: another n");
        WillowLaw x = with(8, 8);
        int[] no = {0, -1, 65, 66, LEAST, MOST};
        for (int n : no) {
            softIs(x, n, -1, -1);
        }
        DUE.sentence("Promise 26, Term 6", "SOFT of n, 1 .. 64 .. NONE: there is no such size that is not wider or higher");
        for (int n = 1; n <= 64; n++) {
            int first = -1;
            for (int w = 8; w >= 1; w--) {
                first = n % w == 0 && n / w <= 8 ? 10 * w + n / w : first;
            }
            softIs(x, n, first, first == -1 ? -1 : 4 * n);
        }
        softIs(with(2, 2), 3, -1, -1);
        softIs(with(2, 2), 4, 22, 16);
        softIs(with(2, 2), 8, -1, -1);
        softIs(with(8, 2), 8, 42, 32);
        softIs(with(8, 2), 7, 71, 28);
        softIs(with(2, 8), 7, 17, 28);
        DUE.sentence("Term 6", "of all sizes of n STROKES that do not SLIP");
        softIs(Due.with(0, allOpen(8, 8)), 1, -1, -1);
        softIs(Due.with(0, allOpen(8, 8)), 64, -1, -1);
        softIs(Due.with(0, allOpen(2, 2)), 4, -1, -1);
        softIs(with(3, 3, 0, 3), 2, 21, 4);
        softIs(with(3, 3, 0, 1), 2, 12, 4);
        softIs(with(3, 3, 0, 1, 3), 2, -1, -1);
        DUE.sentence("Term 6", "the one whose HOLD is least (10 times the width, and the height), of several the least");
        softIs(Due.with(0, "size 6 6;stake 3 0 0;"), 6, 16, 12);
        softIs(Due.with(0, "size 6 6;rod 3 0 0;"), 6, 61, 12);
        softIs(Due.with(0, "size 4 4;rod 0 0 9;rod 1 0 9;"), 4, 22, 0);
        softIs(Due.with(0, "size 4 4;rod 0 0 9;"), 4, 41, 0);
    }

    private static void mirrored() {
        DUE.sentence("Promise 28", "or for another what");
        int[] no = {-1, -2, 3, 4, LEAST, MOST};
        for (int what : no) {
            DUE.is("mirrored(0, " + what + ")", with(2, 2).mirrored(0, what), -1);
        }
        DUE.sentence("Term 6", "MIRRORED: when left and right are changed about (1), top and bottom (2), together");
        DUE.is("none OPEN", with(2, 2).mirrored(0, 0), 3);
        DUE.is("all OPEN", Due.with(0, allOpen(8, 8)).mirrored(0, 0), 3);
        DUE.is("a corner", with(2, 2, 0).mirrored(0, 0), 0);
        DUE.is("two corners across", with(2, 2, 0, 3).mirrored(0, 0), 0);
        DUE.is("the upper ones", with(2, 2, 0, 1).mirrored(0, 0), 1);
        DUE.is("the left ones", with(2, 2, 0, 2).mirrored(0, 0), 2);
        DUE.is("the middle", with(3, 3, 4).mirrored(0, 0), 3);
        DUE.is("the middle column's top", with(3, 3, 1).mirrored(0, 0), 1);
        DUE.is("the middle row's left", with(3, 3, 3).mirrored(0, 0), 2);
        DUE.is("four corners of eight", with(8, 8, 0, 7, 56, 63).mirrored(0, 0), 3);
        DUE.is("by STROKES alone, whatever RODS", Due.with(0, "rod 0 9 0;stake 0 9 0;").mirrored(0, 0), 3);
        DUE.sentence("Term 6", "CROWDED: the row with most OPEN STROKES, of several the least; the column likewise");
        int[][] rows = {{}, {63}, {0, 63}, {8, 63}, {7, 56, 57}, {54, 62}, {6, 15, 63}};
        int[] row = {0, 7, 0, 1, 7, 6, 0};
        int[] column = {0, 7, 0, 0, 0, 6, 7};
        for (int i = 0; i < rows.length; i++) {
            DUE.is("the row of case " + i, with(8, 8, rows[i]).mirrored(0, 1), row[i]);
            DUE.is("the column of case " + i, with(8, 8, rows[i]).mirrored(0, 2), column[i]);
        }
        for (int s = 0; s < 64; s++) {
            DUE.is("the row of " + s, with(8, 8, s).mirrored(0, 1), s / 8);
            DUE.is("the column of " + s, with(8, 8, s).mirrored(0, 2), s % 8);
        }
        DUE.is("all OPEN, the row", Due.with(0, allOpen(8, 8)).mirrored(0, 1), 0);
        DUE.is("all OPEN, the column", Due.with(0, allOpen(8, 8)).mirrored(0, 2), 0);
    }

    public static void main(String[] args) {
        basket();
        noBasket();
        anotherSize();
        widerOrHigher();
        places();
        holds();
        opens();
        closes();
        sieve();
        escape();
        tunnel();
        holes();
        last();
        unlike();
        stout();
        soft();
        mirrored();
        DUE.finish();
    }
}
