/** Terms 4 and 6, promises 18 to 20, 29 and 30: a test for each sentence that names an edge. */
public final class ParishEdgesTest {
    private static final Due DUE = new Due("ParishEdgesTest");
    private static final int LEAST = Integer.MIN_VALUE;
    private static final int MOST = Integer.MAX_VALUE;

    private static String lines(String word, int... lengths) {
        StringBuilder lines = new StringBuilder();
        for (int length : lengths) {
            lines.append(word).append(' ').append(length).append(';');
        }
        return lines.toString();
    }

    private static WillowLaw with(int[] rods, int... pieces) {
        return Due.with(2, lines("rod", rods) + lines("need", pieces));
    }

    private static int[] rods(int... lengths) {
        return lengths;
    }

    // ---- promise 18 ----

    private static void parish() {
        DUE.sentence("Promise 18", "NONE: there is none such (of any), or for another what");
        int[][] many = {{0, 0}, {1, 0}, {0, 1}, {6, 8}, {5, 7}, {6, 0}, {0, 8}};
        for (int[] m : many) {
            WillowLaw x = Due.with(2, "rod 7;".repeat(m[0]) + "need 9;".repeat(m[1]));
            for (int what = -30; what < 200; what++) {
                boolean rod = what >= 10 && what < 10 + m[0];
                boolean piece = what >= 20 && what < 20 + m[1];
                int first = what == 0 ? m[0] : what == 1 ? m[1] : what == 2 ? 3 : -1;
                DUE.is("parish(0, " + what + ")", x.parish(0, what), rod ? 7 : piece ? 9 : first);
            }
            int[] far = {1000, LEAST, MOST, LEAST + 10, MOST - 10};
            for (int what : far) {
                DUE.is("parish(0, " + what + ")", x.parish(0, what), -1);
            }
        }
        DUE.sentence("Term 1", "RODS, at most 6, from 0 on: LENGTH, 1 .. 60; PIECES that are needed, at most 8, from 0 on");
        WillowLaw x = with(rods(1, 2, 3, 4, 5, 60), 60, 1, 2, 3, 4, 5, 6, 7);
        for (int k = 0; k < 6; k++) {
            DUE.is("ROD " + k, x.parish(0, 10 + k), k == 5 ? 60 : k + 1);
        }
        for (int k = 0; k < 8; k++) {
            DUE.is("PIECE " + k, x.parish(0, 20 + k), k == 0 ? 60 : k);
        }
    }

    private static long[] answers(WillowLaw x, int promise, int p) {
        switch (promise) {
            case 18:
                return new long[] {x.parish(p, 0), x.parish(p, 1), x.parish(p, 2), x.parish(p, 10), x.parish(p, 20)};
            case 19:
                return new long[] {x.cutting(p, -3), x.cutting(p, -2), x.cutting(p, -1), x.cutting(p, 0)};
            case 20:
                return new long[] {x.game(p, false, false), x.game(p, false, true), x.game(p, true, false), x.game(p, true, true)};
            case 29:
                return new long[] {x.divided(p, 1, -1), x.divided(p, 1, 0)};
            default:
                return new long[] {x.kept(p)};
        }
    }

    private static void noParish() {
        int[] promises = {18, 19, 20, 29, 30};
        for (int promise : promises) {
            DUE.sentence("Promise " + promise, "there is none such");
            for (int many = 0; many < 3; many++) {
                WillowLaw x = new WillowLaw();
                for (int i = 0; i < many; i++) {
                    Due.text(x, 2, -1, "rod 5;need 2;");
                }
                int[] no = {-1, -2, many, many + 1, 2, LEAST, MOST};
                for (int p : no) {
                    for (long is : answers(x, promise, p)) {
                        DUE.is("PARISH " + p + " of " + many, is, promise == 20 ? -2 : -1);
                    }
                }
            }
        }
        DUE.sentence("Term 1", "PARISHES, at most 2 (2), from 0 on");
        WillowLaw x = with(rods(9), 9);
        Due.text(x, 2, -1, "rod 4;rod 4;need 4;need 4;cut 4;");
        DUE.is("PARISH 0 by itself", x.cutting(0, -1), 1);
        DUE.is("PARISH 1 by itself", x.cutting(1, -1), 2);
        DUE.is("PARISH 1's CUT", x.parish(1, 2), 4);
    }

    // ---- promise 19 ----

    private static void cuttingIs(WillowLaw x, int fewest, int spare, int longest, int... row) {
        DUE.is("the fewest", x.cutting(0, -1), fewest);
        DUE.is("SPARE", x.cutting(0, -2), spare);
        DUE.is("LONGEST", x.cutting(0, -3), longest);
        for (int k = 0; k < row.length; k++) {
            DUE.is("the ROD of PIECE " + k, x.cutting(0, k), row[k]);
        }
        int[] no = {x.parish(0, 1), x.parish(0, 1) + 1, 8, -4, -5, LEAST, MOST};
        for (int k : no) {
            DUE.is("cutting(0, " + k + ")", x.cutting(0, k), -1);
        }
    }

    private static void cutting() {
        DUE.sentence("Promise 19", "NONE: not all can be cut (but for LONGEST), or there is none such (of either)");
        cuttingIs(with(rods()), 0, 0, 0);
        cuttingIs(with(rods(5)), 0, 0, 0);
        cuttingIs(with(rods(), 1), -1, -1, 0, -1);
        cuttingIs(with(rods(5), 6), -1, -1, 0, -1);
        cuttingIs(with(rods(5, 5), 6, 1), -1, -1, 1, -1, -1);
        cuttingIs(with(rods(5, 5), 3, 3, 3), -1, -1, 2, -1, -1, -1);
        cuttingIs(with(rods(4, 4, 4), 6, 6), -1, -1, 0, -1, -1);
        cuttingIs(with(rods(60, 60, 60, 60, 60, 60), 60, 60, 60, 60, 60, 60, 1), -1, -1, 6, -1, -1, -1, -1, -1, -1, -1);
        DUE.sentence("Term 4", "PIECES of one ROD together as long as that at most");
        cuttingIs(with(rods(5), 5), 1, 0, 1, 0);
        cuttingIs(with(rods(5), 4, 1), 1, 0, 2, 0, 0);
        cuttingIs(with(rods(5, 1), 4, 2), -1, -1, 1, -1, -1);
        cuttingIs(with(rods(60), 60), 1, 0, 1, 0);
        cuttingIs(with(rods(1), 1), 1, 0, 1, 0);
        cuttingIs(with(rods(8), 1, 1, 1, 1, 1, 1, 1, 1), 1, 0, 8, 0, 0, 0, 0, 0, 0, 0, 0);
        cuttingIs(with(rods(7), 1, 1, 1, 1, 1, 1, 1, 1), -1, -1, 7, -1, -1, -1, -1, -1, -1, -1, -1);
        cuttingIs(with(rods(1, 1, 1, 1, 1, 1), 1, 1, 1, 1, 1, 1), 6, 0, 6, 0, 1, 2, 3, 4, 5);
        DUE.sentence("Term 4", "the fewest RODS that are cut");
        cuttingIs(with(rods(3, 3, 6), 3, 3), 1, 0, 2, 2, 2);
        cuttingIs(with(rods(4, 4, 9), 3, 3, 3), 1, 0, 3, 2, 2, 2);
        cuttingIs(with(rods(2, 2, 2, 2, 2, 10), 2, 2, 2, 2, 2, 1), 2, 1, 6, 0, 5, 5, 5, 5, 5);
        DUE.sentence("Term 4", "the row of RODS by PIECES, the first by numbers");
        cuttingIs(with(rods(5, 5, 5), 2, 4, 2), 2, 2, 3, 0, 1, 0);
        cuttingIs(with(rods(5, 5, 5), 4, 2, 2), 2, 2, 3, 0, 1, 1);
        cuttingIs(with(rods(2, 6, 6), 6, 2, 4), 2, 0, 3, 1, 2, 2);
        cuttingIs(with(rods(6, 6), 1, 1, 1), 1, 3, 3, 0, 0, 0);
        cuttingIs(with(rods(6, 6), 5, 1, 1, 1), 2, 4, 4, 0, 0, 1, 1);
        cuttingIs(with(rods(4, 9), 3, 1, 4), 1, 1, 3, 1, 1, 1);
        DUE.sentence("Term 4", "SPARE: how little can be left in all of the RODS that are cut (of however many RODS)");
        cuttingIs(with(rods(10, 4, 3), 4, 3), 1, 0, 2, 0, 0);
        cuttingIs(with(rods(10, 6, 5), 4, 5), 1, 1, 2, 0, 0);
        cuttingIs(with(rods(60, 2, 2, 2), 2, 2, 2), 1, 0, 3, 0, 0, 0);
        cuttingIs(with(rods(60, 2, 2), 2, 2, 2), 1, 54, 3, 0, 0, 0);
        cuttingIs(with(rods(60, 60), 1), 1, 59, 1, 0);
        cuttingIs(with(rods(60, 7), 1), 1, 6, 1, 0);
        DUE.sentence("Term 4", "LONGEST: the most PIECES that can be cut at all, if not all must be");
        cuttingIs(with(rods(6), 5, 2, 2, 2), -1, -1, 3, -1, -1, -1, -1);
        cuttingIs(with(rods(4, 4), 3, 3, 3, 1), -1, -1, 3, -1, -1, -1, -1);
        cuttingIs(with(rods(5, 3), 5, 3, 4), -1, -1, 2, -1, -1, -1);
        DUE.is("asked first", with(rods(5, 3), 5, 3, 4).cutting(0, -3), 2);
        WillowLaw x = with(rods(5, 3), 5, 3, 4);
        Due.text(x, 2, -1, "rod 60;" + "need 1;".repeat(8));
        DUE.is("asked behind another PARISH's", x.cutting(1, -3) - x.cutting(0, -3), 6);
        DUE.is("SPARE asked first", with(rods(5, 3), 4, 2).cutting(0, -2), 2);
        DUE.is("the ROD asked first", with(rods(5, 3), 4, 2).cutting(0, 1), 1);
    }

    private static void kept() {
        DUE.sentence("Promise 30, Term 6", "KEPT .. (NONE: they can't be cut)");
        DUE.is("no RODS, no PIECES", with(rods()).kept(0), 0);
        DUE.is("no RODS, a PIECE", with(rods(), 1).kept(0), -1);
        DUE.is("too long a PIECE", with(rods(5, 5), 6).kept(0), -1);
        DUE.is("one too many", with(rods(5, 5), 5, 5, 1).kept(0), -1);
        DUE.sentence("Term 6", "how many of the RODS at most can all stay whole, if all PIECES are cut out of the others");
        DUE.is("no PIECES", with(rods(1, 2, 3, 4, 5, 6)).kept(0), 6);
        DUE.is("one of six is cut", with(rods(1, 1, 1, 1, 1, 8), 1, 1, 1, 1, 1, 1, 1, 1).kept(0), 5);
        DUE.is("all six are cut", with(rods(2, 2, 2, 2, 2, 2), 2, 2, 2, 2, 2, 2).kept(0), 0);
        DUE.is("of two that are cut or one", with(rods(3, 3, 6), 3, 3).kept(0), 2);
    }

    // ---- promise 20 ----

    private static void gameIs(String parish, int wins, int first, int losing, int losingFirst) {
        WillowLaw x = Due.with(2, parish);
        DUE.is("GAME of '" + parish + "'", x.game(0, false, false), wins);
        DUE.is("GAME of '" + parish + "', first", x.game(0, false, true), first);
        DUE.is("LOSING of '" + parish + "'", x.game(0, true, false), losing);
        DUE.is("LOSING of '" + parish + "', first", x.game(0, true, true), losingFirst);
    }

    private static void game() {
        DUE.sentence("Term 4", "who can't cut any more loses .. LOSING: who cuts the last LENGTH loses (who can't cut any more wins)");
        gameIs("", 0, -1, 1, -1);
        gameIs("need 5;", 0, -1, 1, -1);
        gameIs("rod 1;", 1, 1, 0, -1);
        gameIs("rod 1;rod 1;", 0, -1, 1, 1);
        gameIs("rod 1;rod 1;rod 1;", 1, 1, 0, -1);
        gameIs("rod 2;", 1, 2, 1, 1);
        gameIs("rod 2;rod 2;", 0, -1, 0, -1);
        DUE.sentence("Term 4", "two cut by turns 1 to CUT LENGTHS off one ROD");
        gameIs("cut 3;rod 3;", 1, 3, 1, 2);
        gameIs("cut 3;rod 4;", 0, -1, 1, 3);
        gameIs("cut 3;rod 5;", 1, 1, 0, -1);
        gameIs("cut 3;rod 6;", 1, 2, 1, 1);
        gameIs("cut 1;rod 59;", 1, 1, 0, -1);
        gameIs("cut 1;rod 60;", 0, -1, 1, 1);
        gameIs("cut 9;rod 9;", 1, 9, 1, 8);
        gameIs("cut 9;rod 10;", 0, -1, 1, 9);
        gameIs("cut 9;rod 60;", 0, -1, 1, 9);
        gameIs("cut 9;rod 59;", 1, 9, 1, 8);
        gameIs("cut 9;rod 51;", 1, 1, 0, -1);
        DUE.sentence("Promise 20, Term 4", "the first cut (10 times the ROD, and how much), of several the least (NONE: none wins)");
        gameIs("cut 9;rod 5;rod 5;", 0, -1, 0, -1);
        gameIs("cut 9;rod 9;rod 5;rod 5;", 1, 9, 1, 9);
        gameIs("cut 9;rod 5;rod 5;rod 9;", 1, 29, 1, 29);
        gameIs("cut 9;rod 4;rod 4;rod 4;rod 4;rod 4;rod 4;", 0, -1, 0, -1);
        gameIs("cut 9;rod 4;rod 4;rod 4;rod 4;rod 4;rod 9;", 1, 55, 1, 55);
        gameIs("cut 3;rod 3;rod 3;rod 3;", 1, 3, 1, 3);
        gameIs("cut 3;rod 1;rod 2;", 1, 11, 1, 12);
        gameIs("cut 3;rod 1;rod 2;rod 3;", 0, -1, 0, -1);
        gameIs("cut 2;rod 4;rod 4;", 0, -1, 1, 1);
        gameIs("cut 9;rod 1;rod 1;rod 1;rod 1;rod 1;rod 3;", 1, 52, 1, 53);
    }

    // ---- promise 29 ----

    private static void dividedIs(WillowLaw x, int n, int most, int... row) {
        DUE.is("divided among " + n, x.divided(0, n, -1), most);
        for (int k = 0; k < row.length; k++) {
            DUE.is("who has ROD " + k + " among " + n, x.divided(0, n, k), row[k]);
        }
        int[] no = {row.length, row.length + 1, 6, -2, -3, LEAST, MOST};
        for (int k : no) {
            DUE.is("divided among " + n + ", k " + k, x.divided(0, n, k), -1);
        }
    }

    private static void divided() {
        DUE.sentence("Promise 29", "NONE: another n, or there is none such (of either)");
        WillowLaw x = with(rods(5, 4, 3));
        int[] no = {0, -1, 5, 6, LEAST, MOST};
        for (int n : no) {
            for (int k = -1; k < 3; k++) {
                DUE.is("divided among " + n + ", k " + k, x.divided(0, n, k), -1);
            }
        }
        DUE.sentence("Term 6", "DIVIDED among n, 1 .. 4: the least there can be that the one with most LENGTHS has");
        dividedIs(with(rods()), 1, 0);
        dividedIs(with(rods()), 4, 0);
        dividedIs(with(rods(60)), 1, 60, 0);
        dividedIs(with(rods(60)), 4, 60, 0);
        dividedIs(with(rods(60, 60, 60, 60, 60, 60)), 1, 360, 0, 0, 0, 0, 0, 0);
        dividedIs(x, 1, 12, 0, 0, 0);
        dividedIs(x, 2, 7, 0, 1, 1);
        dividedIs(x, 3, 5, 0, 1, 2);
        dividedIs(x, 4, 5, 0, 1, 2);
        dividedIs(with(rods(9, 8, 7, 6, 5, 4)), 4, 11, 0, 1, 2, 3, 3, 2);
        DUE.sentence("Term 6", "the row of those who have the RODS, the first by numbers");
        dividedIs(with(rods(1, 1, 9)), 2, 9, 0, 0, 1);
        dividedIs(with(rods(9, 1, 1)), 2, 9, 0, 1, 1);
        dividedIs(with(rods(1, 1, 1, 9)), 4, 9, 0, 0, 0, 1);
        dividedIs(with(rods(2, 2, 2, 2)), 2, 4, 0, 0, 1, 1);
        dividedIs(with(rods(1, 2, 60, 3)), 3, 60, 0, 0, 1, 0);
        dividedIs(with(rods(60, 1, 60, 1, 60, 1)), 3, 61, 0, 0, 1, 1, 2, 2);
        dividedIs(with(rods(5, 5, 5, 5, 5, 5)), 4, 10, 0, 0, 1, 1, 2, 2);
    }

    public static void main(String[] args) {
        parish();
        noParish();
        cutting();
        kept();
        game();
        divided();
        DUE.finish();
    }
}
