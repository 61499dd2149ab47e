/** Promises 18 to 20, 29 and 30: questions of a PARISH. */
public final class ParishTest {
    private static final Due DUE = new Due("ParishTest");
    private static final String THREE = "rod 10;rod 7;rod 5;need 4;need 3;need 5;need 2;cut 3;";

    private static void parish() {
        WillowLaw x = Due.with(2, THREE);
        int[] what = {0, 1, 2, 10, 11, 12, 20, 21, 22, 23};
        int[] want = {3, 4, 3, 10, 7, 5, 4, 3, 5, 2};
        for (int i = 0; i < what.length; i++) {
            DUE.is("18: parish(0, " + what[i] + ")", x.parish(0, what[i]), want[i]);
        }
        int[] none = {-1, 3, 9, 13, 19, 24, 30, Integer.MAX_VALUE, Integer.MIN_VALUE};
        for (int is : none) {
            DUE.is("18: parish(0, " + is + ")", x.parish(0, is), -1);
        }
        DUE.is("18: no parish", x.parish(1, 0), -1);
        DUE.is("18: CUT at first", Due.with(2, "").parish(0, 2), 3);
    }

    private static void cutting() {
        WillowLaw x = Due.with(2, THREE);
        // 14 in all: of two RODS, 10 and 7 (4 3 2 and 5, or 5 with 3 or 2 ..) or 10 and 5.
        DUE.is("19: the fewest", x.cutting(0, -1), 2);
        int[] row = {0, 0, 1, 0};
        for (int k = 0; k < 4; k++) {
            DUE.is("19: piece " + k, x.cutting(0, k), row[k]);
        }
        DUE.is("19: piece 4", x.cutting(0, 4), -1);
        DUE.is("19: spare", x.cutting(0, -2), 1);
        DUE.is("19: longest", x.cutting(0, -3), 4);
        DUE.is("19: k -4", x.cutting(0, -4), -1);
        DUE.is("19: no parish", x.cutting(1, -1), -1);
        DUE.is("19: no parish, longest", x.cutting(-1, -3), -1);
        WillowLaw cannot = Due.with(2, "rod 6;rod 1;cut 4;need 9;need 1;need 6;");
        DUE.is("19: not all", cannot.cutting(0, -1), -1);
        DUE.is("19: not all, piece", cannot.cutting(0, 0), -1);
        DUE.is("19: not all, spare", cannot.cutting(0, -2), -1);
        DUE.is("19: not all, longest", cannot.cutting(0, -3), 2);
        WillowLaw none = Due.with(2, "rod 5;");
        DUE.is("19: no pieces", none.cutting(0, -1), 0);
        DUE.is("19: no pieces, spare", none.cutting(0, -2), 0);
        DUE.is("19: no pieces, longest", none.cutting(0, -3), 0);
        DUE.is("19: no pieces, piece", none.cutting(0, 0), -1);
        // One ROD of 20 leaves 9; 6 and 5 leave nothing.
        WillowLaw spare = Due.with(2, "rod 20;rod 6;rod 5;need 6;need 5;");
        DUE.is("19: fewest, but not least spare", spare.cutting(0, -1), 1);
        DUE.is("19: spare of more RODS", spare.cutting(0, -2), 0);
        // The first row by numbers among those of two RODS.
        WillowLaw first = Due.with(2, "rod 3;rod 8;rod 8;need 3;need 5;need 8;");
        int[] rows = {1, 1, 2};
        for (int k = 0; k < 3; k++) {
            DUE.is("19: first row, piece " + k, first.cutting(0, k), rows[k]);
        }
        WillowLaw most = Due.with(2, "rod 60;rod 60;rod 60;rod 60;rod 60;rod 60;" + "need 41;".repeat(6) + "need 19;need 19;");
        DUE.is("19: six", most.cutting(0, -1), 6);
        DUE.is("19: the last piece", most.cutting(0, 7), 1);
        DUE.is("19: spare of six", most.cutting(0, -2), 76);
    }

    private static void kept() {
        DUE.is("30: one", Due.with(2, THREE).kept(0), 1);
        DUE.is("30: none", Due.with(2, "rod 6;rod 1;need 6;need 1;").kept(0), 0);
        DUE.is("30: all", Due.with(2, "rod 6;rod 1;").kept(0), 2);
        DUE.is("30: no rods", Due.with(2, "").kept(0), 0);
        DUE.is("30: can't be cut", Due.with(2, "rod 6;need 7;").kept(0), -1);
        DUE.is("30: no parish", new WillowLaw().kept(0), -1);
    }

    private static void game() {
        WillowLaw x = Due.with(2, THREE);
        // By 4: 10, 7, 5 leave 2, 3, 1, which is lost.
        DUE.is("20: lost", x.game(0, false, false), 0);
        DUE.is("20: lost, first", x.game(0, false, true), -1);
        DUE.is("20: lost either way", x.game(0, true, false), 0);
        WillowLaw one = Due.with(2, "rod 5;");
        DUE.is("20: one of 5", one.game(0, false, false), 1);
        DUE.is("20: one of 5, first", one.game(0, false, true), 1);
        DUE.is("20: one of 5, losing", one.game(0, true, false), 0);
        DUE.is("20: one of 5, losing, first", one.game(0, true, true), -1);
        WillowLaw four = Due.with(2, "rod 4;");
        DUE.is("20: one of 4", four.game(0, false, false), 0);
        DUE.is("20: one of 4, losing", four.game(0, true, false), 1);
        DUE.is("20: one of 4, losing, first", four.game(0, true, true), 3);
        WillowLaw none = Due.with(2, "");
        DUE.is("20: no rods", none.game(0, false, false), 0);
        DUE.is("20: no rods, losing", none.game(0, true, false), 1);
        DUE.is("20: no rods, losing, first", none.game(0, true, true), -1);
        WillowLaw ones = Due.with(2, "cut 1;rod 3;rod 4;");
        DUE.is("20: cut 1", ones.game(0, false, false), 1);
        DUE.is("20: cut 1, first", ones.game(0, false, true), 1);
        DUE.is("20: cut 1, losing", ones.game(0, true, false), 0);
        WillowLaw second = Due.with(2, "cut 9;rod 1;rod 9;");
        DUE.is("20: the second ROD", second.game(0, false, true), 18);
        DUE.is("20: the second ROD, losing", second.game(0, true, true), 19);
        DUE.is("20: no parish", x.game(1, false, false), -2);
        DUE.is("20: no parish, first", x.game(-1, true, true), -2);
    }

    private static void divided() {
        WillowLaw x = Due.with(2, THREE);
        DUE.is("29: among 1", x.divided(0, 1, -1), 22);
        DUE.is("29: among 2", x.divided(0, 2, -1), 12);
        int[] row = {0, 1, 1};
        for (int k = 0; k < 3; k++) {
            DUE.is("29: who has " + k, x.divided(0, 2, k), row[k]);
        }
        DUE.is("29: among 3", x.divided(0, 3, -1), 10);
        DUE.is("29: among 3, the last", x.divided(0, 3, 2), 2);
        DUE.is("29: among 4", x.divided(0, 4, -1), 10);
        DUE.is("29: among 4, the last", x.divided(0, 4, 2), 2);
        DUE.is("29: among 0", x.divided(0, 0, -1), -1);
        DUE.is("29: among 5", x.divided(0, 5, -1), -1);
        DUE.is("29: rod 3", x.divided(0, 2, 3), -1);
        DUE.is("29: rod -2", x.divided(0, 2, -2), -1);
        DUE.is("29: no parish", x.divided(1, 2, -1), -1);
        DUE.is("29: no rods", Due.with(2, "").divided(0, 4, -1), 0);
        WillowLaw six = Due.with(2, "rod 9;rod 8;rod 7;rod 6;rod 5;rod 4;");
        // 39 in all; 13 each: 9 4, 8 5, 7 6.
        DUE.is("29: six among 3", six.divided(0, 3, -1), 13);
        int[] who = {0, 1, 2, 2, 1, 0};
        for (int k = 0; k < 6; k++) {
            DUE.is("29: who has " + k + " of six", six.divided(0, 3, k), who[k]);
        }
    }

    public static void main(String[] args) {
        parish();
        cutting();
        kept();
        game();
        divided();
        DUE.finish();
    }
}
