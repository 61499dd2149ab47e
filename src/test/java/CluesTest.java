/** Promises 21 and 22: CLUES and the GAPS that FIT. */
public final class CluesTest {
    private static final Due DUE = new Due("CluesTest");
    private static final String FOUR = "size 3 3;open 1 1;shut 0 0;slips 2 1;held 3 1;";

    private static void clues() {
        WillowLaw x = Due.with(3, FOUR);
        int[] what = {0, 1, 2, 10, 11, 12, 13, 20, 21, 22, 23, 30, 31, 32, 33};
        int[] want = {3, 3, 4, 0, 1, 2, 3, 1, 0, 2, 3, 1, 0, 1, 1};
        for (int i = 0; i < what.length; i++) {
            DUE.is("21: clues(0, " + what[i] + ")", x.clues(0, what[i]), want[i]);
        }
        int[] none = {-1, 3, 9, 14, 19, 24, 34, 39, 40, 50, Integer.MIN_VALUE, Integer.MAX_VALUE};
        for (int is : none) {
            DUE.is("21: clues(0, " + is + ")", x.clues(0, is), -1);
        }
        DUE.is("21: no clues", x.clues(1, 0), -1);
        WillowLaw first = Due.with(3, "");
        DUE.is("21: WIDE at first", first.clues(0, 0), 6);
        DUE.is("21: HIGH at first", first.clues(0, 1), 6);
        DUE.is("21: none at first", first.clues(0, 2), 0);
        DUE.is("21: a column, a row", Due.with(3, "size 5 3;shut 4 2;").clues(0, 20), 4);
    }

    private static void gaps() {
        WillowLaw x = Due.with(3, FOUR);
        // Two wide, with 4, without 0: 2 1 at 3 and 4; 2 2 at 1, 3 and 4; 2 3 at 1.
        int[] number = {64 + 3, 64 + 4, 512 + 64 + 1, 512 + 64 + 3, 512 + 64 + 4, 1024 + 64 + 1};
        DUE.is("22: how many", x.gaps(0, 0), number.length);
        for (int k = 0; k < number.length; k++) {
            DUE.is("22: the k-th, " + k, x.gaps(0, 1000 + k), number[k]);
        }
        DUE.is("22: the 7th", x.gaps(0, 1006), -2);
        // OPEN in: 0 none, 1 two, 2 two, 3 two, 4 six, 5 four, 6 one, 7 three, 8 two.
        int[] sure = {0, -1, -1, -1, 1, -1, -1, -1, -1};
        for (int s = 0; s < 9; s++) {
            DUE.is("22: sure of " + s, x.gaps(0, 100 + s), sure[s]);
        }
        DUE.is("22: ask", x.gaps(0, 1), 7);
        int[] none = {-1, 2, 99, 109, 163, 999, Integer.MAX_VALUE, Integer.MIN_VALUE};
        for (int is : none) {
            DUE.is("22: gaps(0, " + is + ")", x.gaps(0, is), -2);
        }
        DUE.is("22: no clues", x.gaps(1, 0), -2);
        WillowLaw all = Due.with(3, "size 8 8;");
        DUE.is("22: all", all.gaps(0, 0), 1296);
        DUE.is("22: the first", all.gaps(0, 1000), 0);
        DUE.is("22: the last", all.gaps(0, 2295), 4095 - 63);
        DUE.is("22: behind the last", all.gaps(0, 2296), -2);
    }

    private static void nothingFits() {
        WillowLaw x = Due.with(3, "open 1 1;shut 1 1;");
        DUE.is("22: none", x.gaps(0, 0), 0);
        DUE.is("22: none to ask", x.gaps(0, 1), -1);
        DUE.is("22: none sure", x.gaps(0, 100), -1);
        DUE.is("22: none k-th", x.gaps(0, 1000), -2);
        WillowLaw wide = Due.with(3, "size 2 2;slips 3 1;");
        DUE.is("22: wider never slips", wide.gaps(0, 0), 0);
        WillowLaw held = Due.with(3, "size 2 2;held 3 1;");
        DUE.is("22: wider is always held", held.gaps(0, 0), 9);
        DUE.is("22: of several the least is asked", held.gaps(0, 1), 0);
    }

    public static void main(String[] args) {
        clues();
        gaps();
        nothingFits();
        DUE.finish();
    }
}
