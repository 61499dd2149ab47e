/** Term 4, promises 21 and 22: a test for each sentence that names an edge. */
public final class CluesEdgesTest {
    private static final Due DUE = new Due("CluesEdgesTest");
    private static final int LEAST = Integer.MIN_VALUE;
    private static final int MOST = Integer.MAX_VALUE;

    // ---- promise 21 ----

    private static void clues() {
        DUE.sentence("Promise 21", "NONE: there is none such (of any), or for another what");
        for (int many = 0; many <= 10; many++) {
            WillowLaw x = Due.with(3, "size 4 7;" + "held 5 8;".repeat(many));
            for (int what = -30; what < 200; what++) {
                int first = what == 0 ? 4 : what == 1 ? 7 : what == 2 ? many : -1;
                boolean there = what >= 10 && what < 40 && what % 10 < many;
                int due = what < 20 ? 3 : what < 30 ? 5 : 8;
                DUE.is("clues(0, " + what + ") of " + many, x.clues(0, what), there ? due : first);
            }
            int[] far = {1000, LEAST, MOST, LEAST + 10, MOST - 10, -10, -20};
            for (int what : far) {
                DUE.is("clues(0, " + what + ") of " + many, x.clues(0, what), -1);
            }
        }
        DUE.sentence("Promise 21", "10 + k: 0 open, 1 shut, 2 slips, 3 held, 20 + k, 30 + k: its numbers");
        WillowLaw x = Due.with(3, "size 8 8;open 0 7;shut 7 0;slips 1 8;held 8 1;");
        int[][] due = {{0, 0, 7}, {1, 7, 0}, {2, 1, 8}, {3, 8, 1}};
        for (int k = 0; k < 4; k++) {
            for (int part = 0; part < 3; part++) {
                DUE.is("clues(0, " + (10 * part + 10 + k) + ")", x.clues(0, 10 * part + 10 + k), due[k][part]);
            }
        }
    }

    private static void noClues() {
        for (int promise = 21; promise <= 22; promise++) {
            DUE.sentence("Promise " + promise, "there is none such");
            for (int many = 0; many < 3; many++) {
                WillowLaw x = new WillowLaw();
                for (int i = 0; i < many; i++) {
                    Due.text(x, 3, -1, "open 0 0;");
                }
                int[] no = {-1, -2, many, many + 1, 2, LEAST, MOST};
                int[] what = {0, 1, 2, 10, 20, 30, 100, 1000};
                for (int c : no) {
                    for (int is : what) {
                        long got = promise == 21 ? x.clues(c, is) : x.gaps(c, is);
                        DUE.is("what " + is + " of CLUES " + c + " of " + many, got, promise == 21 ? -1 : -2);
                    }
                }
            }
        }
        DUE.sentence("Term 1", "CLUES, at most 2 texts of them (3), from 0 on");
        WillowLaw x = Due.with(3, "size 2 2;");
        Due.text(x, 3, -1, "size 2 2;open 0 0;");
        DUE.is("CLUES 0 by themselves", x.gaps(0, 0), 9);
        DUE.is("CLUES 1 by themselves", x.gaps(1, 0), 4);
    }

    // ---- promise 22 ----

    private static void gapsAre(String clues, int... numbers) {
        WillowLaw x = Due.with(3, clues);
        DUE.is("how many FIT '" + clues + "'", x.gaps(0, 0), numbers.length);
        for (int k = 0; k < numbers.length; k++) {
            DUE.is("the " + k + ". of '" + clues + "'", x.gaps(0, 1000 + k), numbers[k]);
        }
        DUE.is("behind the last of '" + clues + "'", x.gaps(0, 1000 + numbers.length), -2);
    }

    private static int number(int wide, int column, int row, int width, int height) {
        return 512 * (height - 1) + 64 * (width - 1) + wide * row + column;
    }

    private static void whatGapsTell() {
        DUE.sentence("Promise 22", "-2: there is none such (of either), or for another what");
        int[][] sizes = {{2, 2}, {2, 8}, {8, 2}, {3, 5}};
        for (int[] s : sizes) {
            WillowLaw x = Due.with(3, "size " + s[0] + " " + s[1] + ";");
            int all = s[0] * (s[0] + 1) / 2 * (s[1] * (s[1] + 1) / 2);
            DUE.is("all of " + s[0] + " " + s[1], x.gaps(0, 0), all);
            int[] what = {-1, -2, 2, 3, 10, 20, 99, 100 + s[0] * s[1], 164, 999, 1000 + all, 1001 + all, LEAST, MOST};
            for (int is : what) {
                DUE.is("gaps(0, " + is + ")", x.gaps(0, is), -2);
            }
            DUE.is("the last STROKE is there", x.gaps(0, 99 + s[0] * s[1]), -1);
            DUE.is("the last GAP is there", x.gaps(0, 999 + all), number(s[0], 0, 0, s[0], s[1]));
        }
        WillowLaw eight = Due.with(3, "size 8 8;");
        for (int what = 164; what < 1000; what += 4) {
            DUE.is("gaps(0, " + what + ") of 8 8", eight.gaps(0, what), -2);
        }
        DUE.is("all of 8 8", Due.with(3, "size 8 8;").gaps(0, 0), 1296);
        DUE.is("the last of 8 8", Due.with(3, "size 8 8;").gaps(0, 2295), 512 * 7 + 64 * 7);
        DUE.is("behind the last of 8 8", Due.with(3, "size 8 8;").gaps(0, 2296), -2);
        DUE.is("STROKE 63 of 8 8", Due.with(3, "size 8 8;shut 7 7;").gaps(0, 163), 0);
    }

    private static void nothingFits() {
        DUE.sentence("Promise 22", "1: ASK (NONE: nothing FITS), SURE of a STROKE (NONE, too: nothing FITS)");
        String[] no = {"open 0 0;shut 0 0;", "size 2 2;slips 3 1;", "size 2 2;slips 1 3;", "held 1 1;", "slips 2 2;held 2 1;",
            "size 8 8;open 0 0;open 7 7;shut 3 3;", "slips 8 8;", "size 3 3;open 0 0;open 2 0;held 3 1;"};
        for (String clues : no) {
            gapsAre(clues);
            WillowLaw x = Due.with(3, clues);
            DUE.is("ASK of '" + clues + "'", x.gaps(0, 1), -1);
            for (int s = 0; s < 4; s++) {
                DUE.is("SURE of " + s + " of '" + clues + "'", x.gaps(0, 100 + s), -1);
            }
            DUE.is("no STROKE of '" + clues + "'", x.gaps(0, 164), -2);
        }
    }

    private static void theKth() {
        DUE.sentence("Term 4", "the k-th, by numbers (512 times its height less 1, 64 times its width less 1, and the STROKE ..)");
        gapsAre("size 2 2;", 0, 1, 2, 3, 64, 66, 512, 513, 576);
        gapsAre("size 3 2;open 2 1;", number(3, 2, 1, 1, 1), number(3, 1, 1, 2, 1), number(3, 0, 1, 3, 1), number(3, 2, 0, 1, 2),
            number(3, 1, 0, 2, 2), number(3, 0, 0, 3, 2));
        gapsAre("size 8 8;slips 8 8;", 512 * 7 + 64 * 7);
        gapsAre("size 8 8;slips 7 8;held 8 1;", 512 * 7 + 64 * 6, 512 * 7 + 64 * 6 + 1);
        gapsAre("size 8 8;open 7 7;held 2 1;held 1 2;", 63);
        DUE.sentence("Term 4", "all rectangles can be its GAP, all STROKES of it being OPEN, all others shut");
        gapsAre("size 2 2;open 0 0;open 1 1;", 576);
        gapsAre("size 3 3;open 0 0;shut 1 0;shut 0 1;", 0);
        gapsAre("size 2 2;shut 0 0;shut 1 0;shut 0 1;", 3);
        gapsAre("size 2 2;slips 2 1;", 64, 66, 576);
        gapsAre("size 2 2;slips 1 2;", 512, 513, 576);
        gapsAre("size 2 2;held 2 1;held 1 2;", 0, 1, 2, 3);
        gapsAre("size 2 2;held 8 8;held 2 2;slips 1 1;", 0, 1, 2, 3, 64, 66, 512, 513);
    }

    private static void sureIs(String clues, int... due) {
        WillowLaw x = Due.with(3, clues);
        for (int s = 0; s < due.length; s++) {
            DUE.is("SURE of " + s + " of '" + clues + "'", x.gaps(0, 100 + s), due[s]);
        }
        for (int s = due.length - 1; s >= 0; s--) {
            DUE.is("SURE of " + s + " of '" + clues + "' once more", x.gaps(0, 100 + s), due[s]);
        }
        DUE.is("SURE of " + due.length + " of '" + clues + "'", x.gaps(0, 100 + due.length), -2);
    }

    private static void sure() {
        DUE.sentence("Term 4", "SURE of a STROKE: 1 if it is OPEN in all, 0 if in none, NONE else");
        sureIs("size 2 2;", -1, -1, -1, -1);
        sureIs("size 2 2;open 0 0;", 1, -1, -1, -1);
        sureIs("size 2 2;shut 0 0;", 0, -1, -1, -1);
        sureIs("size 2 2;open 0 0;open 1 1;", 1, 1, 1, 1);
        sureIs("size 2 2;open 1 1;held 2 1;", 0, -1, 0, 1);
        sureIs("size 3 2;slips 2 2;", -1, 1, -1, -1, 1, -1);
        sureIs("size 3 2;slips 2 2;shut 0 0;", 0, 1, 1, 0, 1, 1);
    }

    private static void askIs(String clues, int due) {
        DUE.is("ASK of '" + clues + "'", Due.with(3, clues).gaps(0, 1), due);
    }

    private static void ask() {
        DUE.sentence("Term 4", "ASK: the STROKE of which the greater number, by which it is OPEN or not, is least; of several the least");
        // All alike: 4 of 9 are OPEN in each.
        askIs("size 2 2;", 0);
        // One GAP alone: each STROKE tells the same.
        askIs("size 2 2;slips 2 2;", 0);
        askIs("size 8 8;open 7 7;held 2 1;held 1 2;", 0);
        // Two that FIT: 64 at 0 and at 1; 0 is in one of them, 1 in both.
        askIs("size 3 2;slips 2 1;held 3 1;held 1 2;shut 0 1;shut 1 1;shut 2 1;", 0);
        // Two that FIT: 3 alone, 2 and 3: it is 2 that tells.
        askIs("size 2 2;open 1 1;shut 0 0;shut 1 0;", 2);
        // Four that FIT, of one STROKE each: all 3 to 1.
        askIs("size 2 2;held 2 1;held 1 2;", 0);
        // 0 is OPEN in all four; 1 and 2 in two, the least.
        askIs("size 2 2;open 0 0;", 1);
        // 3 is OPEN in all four.
        askIs("size 2 2;open 1 1;", 1);
        // Without 0: 1, 2, 3, 2-3, 1-3; of 5, 1 is in 2, 2 in 2, 3 in 3: all 3 at worst but 0 (5).
        askIs("size 2 2;shut 0 0;", 1);
        // Two that FIT: 6 alone, 6 and 7: it is 7, the last STROKE, that tells.
        askIs("size 4 2;open 2 1;shut 1 1;shut 2 0;shut 0 0;", 7);
    }

    public static void main(String[] args) {
        clues();
        noClues();
        whatGapsTell();
        nothingFits();
        theKth();
        sure();
        ask();
        DUE.finish();
    }
}
