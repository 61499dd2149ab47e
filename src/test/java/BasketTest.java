/** Promises 6, 7, 11 to 17 and 25 to 28: questions of a BASKET. */
public final class BasketTest {
    private static final Due DUE = new Due("BasketTest");

    /*
     * STRENGTHS (o: OPEN):  3 3 o 4
     *                       3 o o 4
     *                       1 1 0 2
     */
    private static final String LITTLE = "size 4 3;rod 0 3 1;rod 1 2 0;rod 2 1 1;stake 0 1 0;stake 1 2 1;"
        + "stake 2 0 0;stake 3 4 2;open 1 1;open 2 1;open 2 0;";

    private static void basket() {
        WillowLaw x = Due.with(0, LITTLE);
        int[] what = {0, 1, 2, 3, 10, 11, 12, 20, 22, 30, 33, 40, 41, 43, 100, 101, 102, 103, 104, 105, 110, 111};
        int[] want = {4, 3, 0, 3, 3, 2, 1, 1, 1, 1, 4, 0, 1, 2, 3, 3, -1, 4, 3, -1, 0, 2};
        for (int i = 0; i < what.length; i++) {
            DUE.is("6: basket(0, " + what[i] + ")", x.basket(0, what[i]), want[i]);
        }
        int[] none = {-1, 4, 5, 9, 13, 17, 18, 19, 23, 29, 34, 39, 44, 49, 50, 99, 112, 163, 1000, Integer.MIN_VALUE};
        for (int is : none) {
            DUE.is("6: basket(0, " + is + ")", x.basket(0, is), -2);
        }
        DUE.is("6: basket(1, 0)", x.basket(1, 0), -2);
        DUE.is("6: basket(-1, 0)", x.basket(-1, 0), -2);
        WillowLaw first = Due.with(0, "");
        int[] atFirst = {6, 6, 0, 0};
        for (int i = 0; i < 4; i++) {
            DUE.is("6: at first " + i, first.basket(0, i), atFirst[i]);
        }
        DUE.is("6: THICK at first", first.basket(0, 15), 2);
        DUE.is("6: WEAR at first", first.basket(0, 45), 0);
        DUE.is("6: STRENGTH at first", first.basket(0, 135), 4);
        WillowLaw wet = Due.with(0, "size 2 2;rod 0 9 0;stake 0 8 0;rod 1 0 9;wet;");
        DUE.is("6: WET", wet.basket(0, 2), 1);
        DUE.is("6: half, cut", wet.basket(0, 100), 8);
        DUE.is("6: half of 11", wet.basket(0, 101), 5);
        DUE.is("6: 0 at least", wet.basket(0, 102), 0);
    }

    private static void slips() {
        WillowLaw x = Due.with(0, LITTLE);
        DUE.is("7: 1 1", x.slips(0, 1, 1, false), 2);
        DUE.is("7: 2 1", x.slips(0, 2, 1, false), 5);
        DUE.is("7: 1 2", x.slips(0, 1, 2, false), 2);
        DUE.is("7: 2 2", x.slips(0, 2, 2, false), -1);
        DUE.is("7: 1 1 hold", x.slips(0, 1, 1, true), -1);
        DUE.is("7: 2 2 hold", x.slips(0, 2, 2, true), 1);
        DUE.is("7: 3 1 hold", x.slips(0, 3, 1, true), 2);
        DUE.is("7: 4 3 hold", x.slips(0, 4, 3, true), 21);
        DUE.is("7: 5 1", x.slips(0, 5, 1, false), -1);
        DUE.is("7: 5 1 hold", x.slips(0, 5, 1, true), -1);
        DUE.is("7: 1 4 hold", x.slips(0, 1, 4, true), -1);
        DUE.is("7: 8 8", x.slips(0, 8, 8, false), -1);
        DUE.is("7: 9 1", x.slips(0, 9, 1, false), -2);
        DUE.is("7: 1 0", x.slips(0, 1, 0, true), -2);
        DUE.is("7: no basket", x.slips(1, 1, 1, false), -2);
    }

    private static void opens() {
        WillowLaw x = Due.with(0, LITTLE);
        DUE.is("11: 2 2", x.opens(0, 2, 2, false), 1);
        DUE.is("11: 2 2 place", x.opens(0, 2, 2, true), 1);
        DUE.is("11: 1 1", x.opens(0, 1, 1, false), 0);
        DUE.is("11: 1 1 place", x.opens(0, 1, 1, true), 2);
        DUE.is("11: 1 3", x.opens(0, 1, 3, false), 1);
        DUE.is("11: 1 3 place", x.opens(0, 1, 3, true), 2);
        DUE.is("11: 4 3", x.opens(0, 4, 3, false), 9);
        DUE.is("11: 5 1", x.opens(0, 5, 1, false), -1);
        DUE.is("11: 5 1 place", x.opens(0, 5, 1, true), -1);
        DUE.is("11: 0 1", x.opens(0, 0, 1, false), -1);
        DUE.is("11: no basket", x.opens(-1, 1, 1, false), -1);
    }

    private static void closes() {
        WillowLaw x = Due.with(0, LITTLE);
        DUE.is("12: 1 1", x.closes(0, 1, 1, -1), 3);
        DUE.is("12: 1 1, 0", x.closes(0, 1, 1, 0), 2);
        DUE.is("12: 1 1, 1", x.closes(0, 1, 1, 1), 5);
        DUE.is("12: 1 1, 2", x.closes(0, 1, 1, 2), 6);
        DUE.is("12: 1 1, 3", x.closes(0, 1, 1, 3), -1);
        DUE.is("12: 2 1", x.closes(0, 2, 1, -1), 1);
        DUE.is("12: 2 1, 0", x.closes(0, 2, 1, 0), 5);
        DUE.is("12: 2 2", x.closes(0, 2, 2, -1), 0);
        DUE.is("12: 2 2, 0", x.closes(0, 2, 2, 0), -1);
        DUE.is("12: 8 8", x.closes(0, 8, 8, -1), 0);
        DUE.is("12: 9 8", x.closes(0, 9, 8, -1), -1);
        DUE.is("12: k -2", x.closes(0, 1, 1, -2), -1);
        DUE.is("12: no basket", x.closes(1, 1, 1, -1), -1);
        WillowLaw three = Due.with(0, "size 2 2;open 0 0;open 0 1;open 1 0;");
        DUE.is("12: three, the second", three.closes(0, 1, 1, 1), 1);
        WillowLaw four = Due.with(0, "size 2 2;open 0 0;open 0 1;open 1 0;open 1 1;");
        DUE.is("12: not by 3", four.closes(0, 1, 1, -1), -1);
        DUE.is("12: not by 3, 0", four.closes(0, 1, 1, 0), -1);
        DUE.is("12: two of four", four.closes(0, 2, 1, -1), 2);
        DUE.is("12: two of four, 0", four.closes(0, 2, 1, 0), 0);
        DUE.is("12: two of four, 1", four.closes(0, 2, 1, 1), 2);
        // One row of seven: 2 1 goes not by two (1 and 3 leave 4 5 6), but by 1, 3, 5.
        WillowLaw row = Due.with(0, "size 7 2;open 0 0;open 1 0;open 2 0;open 3 0;open 4 0;open 5 0;open 6 0;");
        DUE.is("12: a row", row.closes(0, 2, 1, -1), 3);
        DUE.is("12: a row, 0", row.closes(0, 2, 1, 0), 1);
        DUE.is("12: a row, 1", row.closes(0, 2, 1, 1), 3);
        DUE.is("12: a row, 2", row.closes(0, 2, 1, 2), 5);
        DUE.is("12: a row, 3 1", row.closes(0, 3, 1, -1), 2);
        DUE.is("12: a row, 3 1, 0", row.closes(0, 3, 1, 0), 1);
        DUE.is("12: a row, 3 1, 1", row.closes(0, 3, 1, 1), 4);
    }

    private static void sieve() {
        WillowLaw x = Due.with(0, "size 3 4;open 0 1;");
        DUE.is("13: already", x.sieve(0, 1, 1, 2, 1), 0);
        DUE.is("13: one rod", x.sieve(0, 3, 1, 1, 3), 1);
        DUE.is("13: a rod beside the stroke", x.sieve(0, 1, 2, 2, 2), 1);
        DUE.is("13: the rod of the stroke", x.sieve(0, 3, 1, 1, 2), 2);
        DUE.is("13: two rods", x.sieve(0, 3, 2, 3, 3), 3);
        DUE.is("13: three", x.sieve(0, 2, 3, 3, 4), 7);
        WillowLaw few = Due.with(0, "size 3 4;open 0 3;");
        DUE.is("13: the fewest, not the least number", few.sieve(0, 1, 2, 3, 3), 4);
        DUE.is("13: by none", x.sieve(0, 1, 1, 1, 1), -1);
        DUE.is("13: wider", x.sieve(0, 4, 1, 1, 1), -1);
        DUE.is("13: the other one wider", x.sieve(0, 3, 4, 4, 4), 15);
        DUE.is("13: another size", x.sieve(0, 0, 1, 1, 1), -1);
        DUE.is("13: another other size", x.sieve(0, 1, 1, 1, 9), -1);
        DUE.is("13: no basket", x.sieve(1, 1, 1, 2, 2), -1);
    }

    private static void escape() {
        WillowLaw x = Due.with(0, LITTLE);
        DUE.is("14: at the rim", x.escape(0, 0, false), 3);
        DUE.is("14: at the rim, steps", x.escape(0, 0, true), 1);
        DUE.is("14: from 5", x.escape(0, 5, false), 0);
        DUE.is("14: from 5, steps", x.escape(0, 5, true), 3);
        DUE.is("14: from 6", x.escape(0, 6, true), 2);
        DUE.is("14: no stroke", x.escape(0, 12, false), -1);
        DUE.is("14: stroke -1", x.escape(0, -1, true), -1);
        DUE.is("14: no basket", x.escape(1, 0, false), -1);
        // The middle of five by five, all 4 but for an OPEN one: the first is counted, too.
        WillowLaw y = Due.with(0, "size 5 5;open 1 2;");
        DUE.is("14: by the open one", y.escape(0, 12, false), 8);
        DUE.is("14: by the open one, steps", y.escape(0, 12, true), 3);
        WillowLaw right = Due.with(0, "size 5 5;open 3 2;");
        DUE.is("14: to the right", right.escape(0, 12, false), 8);
        WillowLaw z = Due.with(0, "size 5 5;open 2 1;open 2 2;open 3 2;wet;rod 0 9 0;rod 4 9 0;stake 0 9 0;");
        DUE.is("14: wet", z.escape(0, 12, false), 2);
        DUE.is("14: wet, steps", z.escape(0, 12, true), 3);
    }

    private static void tunnel() {
        WillowLaw x = Due.with(0, LITTLE);
        DUE.is("27: 0 to 0", x.tunnel(0, 0, 0), 3);
        DUE.is("27: 0 to 2", x.tunnel(0, 0, 2), 6);
        DUE.is("27: 2 to 0", x.tunnel(0, 2, 0), 6);
        DUE.is("27: 0 to 11", x.tunnel(0, 0, 11), 3 + 3 + 0 + 0 + 0 + 2);
        DUE.is("27: 8 to 3", x.tunnel(0, 8, 3), 1 + 1 + 0 + 0 + 0 + 4);
        DUE.is("27: open to open", x.tunnel(0, 5, 2), 0);
        DUE.is("27: no stroke", x.tunnel(0, 0, 12), -1);
        DUE.is("27: none from", x.tunnel(0, -1, 0), -1);
        DUE.is("27: no basket", x.tunnel(2, 0, 0), -1);
    }

    private static void holes() {
        WillowLaw x = Due.with(0, LITTLE);
        DUE.is("15: parts", x.holes(0, 0), 1);
        DUE.is("15: largest", x.holes(0, 1), 3);
        DUE.is("15: rectangle", x.holes(0, 2), 2);
        DUE.is("15: what 3", x.holes(0, 3), -1);
        DUE.is("15: what -1", x.holes(0, -1), -1);
        DUE.is("15: no basket", x.holes(1, 0), -1);
        WillowLaw none = Due.with(0, "");
        for (int what = 0; what < 3; what++) {
            DUE.is("15: none open " + what, none.holes(0, what), 0);
        }
        // Corners do not join, nor do the ends of rows.
        WillowLaw y = Due.with(0, "size 8 8;open 7 0;open 0 1;open 1 2;open 0 7;open 1 7;open 7 7;open 7 6;");
        DUE.is("15: apart", y.holes(0, 0), 5);
        DUE.is("15: apart, largest", y.holes(0, 1), 2);
    }

    private static void last() {
        WillowLaw x = Due.with(0, "size 2 4;rod 0 2 5;rod 1 2 8;rod 3 2 5;");
        // 5/10 * 2/10 * 1 * 5/10
        DUE.is("16: none mended, N", x.last(0, 0, 0), 1);
        DUE.is("16: none mended, D", x.last(0, 0, 1), 20);
        DUE.is("16: none mended, rods", x.last(0, 0, 2), 0);
        DUE.is("16: one, N", x.last(0, 1, 0), 1);
        DUE.is("16: one, D", x.last(0, 1, 1), 4);
        DUE.is("16: one, rods", x.last(0, 1, 2), 2);
        DUE.is("16: two, D", x.last(0, 2, 1), 2);
        DUE.is("16: two, the least", x.last(0, 2, 2), 3);
        DUE.is("16: three", x.last(0, 3, 2), 11);
        DUE.is("16: eight, the fewest", x.last(0, 8, 2), 11);
        DUE.is("16: eight, N", x.last(0, 8, 0), 1);
        DUE.is("16: eight, D", x.last(0, 8, 1), 1);
        DUE.is("16: nine", x.last(0, 9, 0), -1);
        DUE.is("16: n -1", x.last(0, -1, 0), -1);
        DUE.is("16: what 3", x.last(0, 0, 3), -1);
        DUE.is("16: no basket", x.last(1, 0, 0), -1);
        WillowLaw y = Due.with(0, "size 2 8;rod 0 0 9;rod 1 0 9;rod 2 0 9;rod 3 0 9;rod 4 0 9;rod 5 0 9;rod 6 0 9;rod 7 0 3;");
        DUE.is("16: 7 of", y.last(0, 0, 0), 7);
        DUE.is("16: 10 to the 8th", y.last(0, 0, 1), 100000000);
    }

    private static void unlike() {
        WillowLaw x = Due.with(0, LITTLE);
        Due.text(x, 0, -1, "size 2 2;open 0 0;open 1 0;");
        // 1 1, 2 1, 1 2 slip through the first; 1 1, 2 1 through the second.
        DUE.is("17: one", x.unlike(0, 1, false), 1);
        DUE.is("17: second in first", x.unlike(0, 1, true), 1);
        DUE.is("17: about", x.unlike(1, 0, true), 0);
        DUE.is("17: alike", x.unlike(0, 0, true), 2);
        DUE.is("17: alike, none", x.unlike(0, 0, false), 0);
        DUE.is("17: no other", x.unlike(0, 2, true), -2);
        DUE.is("17: no one", x.unlike(-1, 0, false), -2);
        Due.text(x, 0, 1, "size 8 2;open 0 0;open 1 0;open 2 0;");
        Due.text(x, 0, 0, "size 8 2;open 0 0;open 1 0;open 2 0;open 3 0;open 4 0;open 5 0;open 6 0;open 7 0;");
        DUE.is("17: up to eight wide", x.unlike(0, 1, false), 5);
        Due.text(x, 0, 0, "size 2 8;open 0 0;open 0 1;open 0 2;open 0 3;open 0 4;open 0 5;open 0 6;open 0 7;");
        DUE.is("17: up to eight high", x.unlike(0, 1, false), 9);
        Due.text(x, 0, 0, LITTLE);
        DUE.is("17: neither", x.unlike(0, 1, true), -1);
        DUE.is("17: neither, two", x.unlike(0, 1, false), 2);
    }

    private static void stout() {
        WillowLaw x = Due.with(0, LITTLE);
        // 2 2 is held by 1 at 5 (its STROKES 9 and 10): by ROD 2 that is 3, as at 1; STAKE 1 makes it 2, STAKE 2 too.
        DUE.is("25: 2 2", x.stout(0, 2, 2, false), 2);
        DUE.is("25: 2 2 hold", x.stout(0, 2, 2, true), 3);
        DUE.is("25: slips", x.stout(0, 1, 1, false), -1);
        DUE.is("25: wider", x.stout(0, 5, 1, true), -1);
        DUE.is("25: another size", x.stout(0, 0, 1, true), -1);
        DUE.is("25: no basket", x.stout(1, 2, 2, true), -1);
        // All of one size: only a STAKE that all rectangles have helps.
        WillowLaw y = Due.with(0, "size 3 3;rod 0 9 0;rod 1 9 0;rod 2 9 0;");
        DUE.is("25: a stake", y.stout(0, 2, 3, false), 9);
        DUE.is("25: a stake, hold", y.stout(0, 2, 3, true), 69);
        WillowLaw nine = Due.with(0, "size 2 2;rod 0 9 0;rod 1 9 0;stake 0 9 0;stake 1 9 0;");
        DUE.is("25: all are 9", nine.stout(0, 1, 1, false), -1);
        DUE.is("25: all are 9, hold", nine.stout(0, 1, 1, true), -1);
        WillowLaw worn = Due.with(0, "size 2 2;rod 0 0 9;rod 1 0 9;");
        DUE.is("25: no help", worn.stout(0, 1, 1, false), 0);
        DUE.is("25: no help, hold", worn.stout(0, 1, 1, true), 0);
    }

    private static void soft() {
        WillowLaw x = Due.with(0, LITTLE);
        // 1 4 is higher; 2 2 is held by 1; 4 1 by 4.
        DUE.is("26: of 4", x.soft(0, 4, false), 22);
        DUE.is("26: of 4, hold", x.soft(0, 4, true), 1);
        // 1 3 is held by 0, 3 1 by 2.
        DUE.is("26: of 3", x.soft(0, 3, false), 13);
        DUE.is("26: of 3, hold", x.soft(0, 3, true), 0);
        DUE.is("26: of 1 slips", x.soft(0, 1, false), -1);
        DUE.is("26: of 1", Due.with(0, "rod 3 1 0;").soft(0, 1, true), 3);
        DUE.is("26: all slip", x.soft(0, 2, false), -1);
        DUE.is("26: all slip, hold", x.soft(0, 2, true), -1);
        DUE.is("26: of 12", x.soft(0, 12, false), 43);
        DUE.is("26: of 5", x.soft(0, 5, false), -1);
        DUE.is("26: of 11", x.soft(0, 11, false), -1);
        DUE.is("26: of 0", x.soft(0, 0, false), -1);
        DUE.is("26: of 65", x.soft(0, 65, true), -1);
        DUE.is("26: of 64, wider", x.soft(0, 64, true), -1);
        DUE.is("26: no basket", x.soft(1, 1, true), -1);
        WillowLaw y = Due.with(0, "size 8 8;");
        DUE.is("26: of 64", y.soft(0, 64, false), 88);
        DUE.is("26: of 64, hold", y.soft(0, 64, true), 256);
        DUE.is("26: of several", y.soft(0, 8, false), 18);
    }

    private static void mirrored() {
        WillowLaw x = Due.with(0, LITTLE);
        DUE.is("28: not", x.mirrored(0, 0), 0);
        DUE.is("28: row", x.mirrored(0, 1), 1);
        DUE.is("28: column", x.mirrored(0, 2), 2);
        DUE.is("28: what 3", x.mirrored(0, 3), -1);
        DUE.is("28: what -1", x.mirrored(0, -1), -1);
        DUE.is("28: no basket", x.mirrored(1, 0), -1);
        DUE.is("28: none open", Due.with(0, "").mirrored(0, 0), 3);
        DUE.is("28: none open, row", Due.with(0, "").mirrored(0, 1), 0);
        DUE.is("28: left and right", Due.with(0, "size 3 2;open 0 1;open 2 1;").mirrored(0, 0), 1);
        DUE.is("28: top and bottom", Due.with(0, "size 3 4;open 0 0;open 0 3;open 1 1;open 1 2;").mirrored(0, 0), 2);
        DUE.is("28: of eight", Due.with(0, "size 8 8;open 0 0;open 7 0;").mirrored(0, 0), 1);
        WillowLaw late = Due.with(0, "size 8 8;open 7 7;open 6 7;open 7 6;");
        DUE.is("28: the last row", late.mirrored(0, 1), 7);
        DUE.is("28: the last column", late.mirrored(0, 2), 7);
        WillowLaw several = Due.with(0, "size 3 3;open 2 1;open 1 2;");
        DUE.is("28: of several the least row", several.mirrored(0, 1), 1);
        DUE.is("28: of several the least column", several.mirrored(0, 2), 1);
    }

    public static void main(String[] args) {
        basket();
        slips();
        opens();
        closes();
        sieve();
        escape();
        tunnel();
        holes();
        last();
        unlike();
        stout();
        soft();
        mirrored();
        DUE.finish();
    }
}
