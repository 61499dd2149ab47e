/** Term 1: a test for each sentence that names an edge of a text, of what it tells, of its FAULTS. */
public final class TextEdgesTest {
    private static final Due DUE = new Due("TextEdgesTest");
    private static final String[] WORDS = {"size", "open", "rod", "stake", "wet", "deed", "mend", "grow", "weave", "winter",
        "dry", "need", "cut", "shut", "slips", "held"};
    /** Lines of each sort, a blank before each TOKEN but the first. */
    private static final String[][] LINES = {
        {"size 2 8 ;", "open 1 0 ;", "rod 0 9 9 ;", "stake 1 0 0 ;", "wet ;"},
        {"deed 8 1 99 ;", "mend rod 7 ;", "mend stake 0 ;", "grow rod 0 ;", "grow stake 7 ;", "weave 7 0 ;", "winter ;", "wet ;",
            "dry ;"},
        {"rod 60 ;", "need 1 ;", "cut 9 ;"},
        {"size 8 2 ;", "open 0 1 ;", "shut 1 1 ;", "slips 8 1 ;", "held 1 8 ;"}};
    /** One NUMBER (N) of each line, with the least and the most that it can be, of each sort. */
    private static final String[][] BOUNDS = {
        {"size N 8;", "2", "8"}, {"size 8 N;", "2", "8"}, {"size 8 8;open N 0;", "0", "7"}, {"size 8 8;open 0 N;", "0", "7"},
        {"size 8 8;rod N 1 1;", "0", "7"}, {"rod 0 N 1;", "0", "9"}, {"rod 0 1 N;", "0", "9"},
        {"size 8 8;stake N 1 1;", "0", "7"}, {"stake 0 N 1;", "0", "9"}, {"stake 0 1 N;", "0", "9"}};
    private static final String[][] YEAR_BOUNDS = {
        {"deed N 1 1;", "1", "8"}, {"deed 1 N 1;", "1", "8"}, {"deed 1 1 N;", "0", "99"}, {"mend rod N;", "0", "7"},
        {"mend stake N;", "0", "7"}, {"grow rod N;", "0", "7"}, {"grow stake N;", "0", "7"}, {"weave N 0;", "0", "7"},
        {"weave 0 N;", "0", "7"}};
    private static final String[][] PARISH_BOUNDS = {
        {"rod N;", "1", "60"}, {"need N;", "1", "60"}, {"cut N;", "1", "9"}};
    private static final String[][] CLUES_BOUNDS = {
        {"size N 8;", "2", "8"}, {"size 8 N;", "2", "8"}, {"size 8 8;open N 0;", "0", "7"}, {"size 8 8;open 0 N;", "0", "7"},
        {"size 8 8;shut N 0;", "0", "7"}, {"size 8 8;shut 0 N;", "0", "7"}, {"slips N 1;", "1", "8"}, {"slips 1 N;", "1", "8"},
        {"held N 1;", "1", "8"}, {"held 1 N;", "1", "8"}};

    private static void wideAndHigh() {
        DUE.sentence("Term 1", "WIDE, 2 .. 8, and HIGH, 2 .. 8 (6 each at first)");
        WillowLaw x = Due.with(0, "");
        DUE.is("WIDE at first", x.basket(0, 0), 6);
        DUE.is("HIGH at first", x.basket(0, 1), 6);
        for (int wide = 2; wide <= 8; wide++) {
            for (int high = 2; high <= 8; high++) {
                WillowLaw y = Due.with(0, "size " + wide + " " + high + ";");
                DUE.is("WIDE of " + wide + " " + high, y.basket(0, 0), wide);
                DUE.is("HIGH of " + wide + " " + high, y.basket(0, 1), high);
                DUE.is("the last STROKE is there", y.basket(0, 100 + wide * high - 1), 4);
                DUE.is("the next one is not", y.basket(0, 100 + wide * high), -2);
            }
        }
        DUE.sentence("Term 1", "STROKES, numbered WIDE times row and column, row 0 on top");
        int[][] corners = {{2, 2, 1, 1}, {2, 8, 1, 7}, {8, 2, 7, 1}, {8, 8, 7, 7}, {8, 8, 0, 7}, {8, 8, 7, 0}, {5, 3, 0, 2},
            {3, 5, 2, 1}};
        for (int[] c : corners) {
            WillowLaw y = Due.with(0, "size " + c[0] + " " + c[1] + ";open " + c[2] + " " + c[3] + ";");
            for (int s = 0; s < c[0] * c[1]; s++) {
                DUE.is("STROKE " + s + " of " + c[0] + " " + c[1], y.basket(0, 100 + s), s == c[0] * c[3] + c[2] ? -1 : 4);
            }
        }
    }

    private static void thickAndWear() {
        DUE.sentence("Term 1", "THICK, 0 .. 9 (2 at first), WEAR, 0 .. 9 (0)");
        WillowLaw x = Due.with(0, "size 8 8;");
        for (int i = 0; i < 8; i++) {
            DUE.is("THICK of ROD " + i, x.basket(0, 10 + i), 2);
            DUE.is("WEAR of ROD " + i, x.basket(0, 20 + i), 0);
            DUE.is("THICK of STAKE " + i, x.basket(0, 30 + i), 2);
            DUE.is("WEAR of STAKE " + i, x.basket(0, 40 + i), 0);
        }
        for (int n = 0; n <= 9; n++) {
            WillowLaw y = Due.with(0, "size 8 8;rod 7 " + n + " " + (9 - n) + ";stake 7 " + (9 - n) + " " + n + ";");
            DUE.is("THICK of ROD 7", y.basket(0, 17), n);
            DUE.is("WEAR of ROD 7", y.basket(0, 27), 9 - n);
            DUE.is("THICK of STAKE 7", y.basket(0, 37), 9 - n);
            DUE.is("WEAR of STAKE 7", y.basket(0, 47), n);
            DUE.is("THICK of ROD 6", y.basket(0, 16), 2);
            DUE.is("WEAR of STAKE 6", y.basket(0, 46), 0);
        }
    }

    private static int strength(int rod, int rodWear, int stake, int stakeWear, String more) {
        return Due.with(0, "rod 0 " + rod + " " + rodWear + ";stake 0 " + stake + " " + stakeWear + ";" + more).basket(0, 100);
    }

    private static void strengths() {
        DUE.sentence("Term 1", "THICK of its ROD and its STAKE together, less WEAR of both, 0 at least");
        DUE.is("9 and 9", strength(9, 0, 9, 0, ""), 18);
        DUE.is("9 9 and 9 8", strength(9, 9, 9, 8, ""), 1);
        DUE.is("9 9 and 9 9", strength(9, 9, 9, 9, ""), 0);
        DUE.is("4 5 and 4 4", strength(4, 5, 4, 4, ""), 0);
        DUE.is("0 9 and 0 9", strength(0, 9, 0, 9, ""), 0);
        DUE.is("0 9 and 9 0: less WEAR of both together", strength(0, 9, 9, 0, ""), 0);
        DUE.is("0 9 and 9 0, not each by itself", strength(1, 9, 9, 0, ""), 1);
        DUE.sentence("Term 1", "in a WET BASKET half of it (cut)");
        for (int whole = 0; whole <= 18; whole++) {
            int rod = Math.min(9, whole);
            DUE.is("half of " + whole, strength(rod, 0, whole - rod, 0, "wet;"), whole / 2);
        }
        DUE.is("half of what is below 0", strength(0, 9, 0, 9, "wet;"), 0);
        DUE.is("half of what is 1 below 0", strength(0, 1, 0, 0, "wet;"), 0);
        DUE.is("cut behind both together", strength(3, 0, 3, 0, "wet;"), 3);
    }

    private static String number(int n, boolean two) {
        return two && n < 10 ? "0" + n : "" + n;
    }

    private static void sweep(int sort, String[][] bounds) {
        for (String[] line : bounds) {
            int least = Integer.parseInt(line[1]);
            int most = Integer.parseInt(line[2]);
            int place = line[0].indexOf('N');
            for (int n = 0; n < 100; n++) {
                boolean can = n >= least && n <= most;
                String text = line[0].replace("N", number(n, false));
                DUE.fault(sort, text, can ? 0 : 2, can ? -1 : place);
                DUE.fault(sort, line[0].replace("N", number(n, true)), can ? 0 : 2, can ? -1 : place);
            }
        }
    }

    private static void numbersThatCannotBe() {
        DUE.sentence("Term 1", "size: WIDE, HIGH; open: a column, a row, 0 .. 7; rod, stake: which, 0 .. 7, THICK, WEAR");
        sweep(0, BOUNDS);
        DUE.sentence("Term 1", "deed: width, height, 1 .. 8, FORCE, 0 .. 99; mend, grow: which, 0 .. 7; weave: a column, a row");
        sweep(1, YEAR_BOUNDS);
        DUE.sentence("Term 1", "LENGTH, 1 .. 60; CUT, 1 .. 9");
        sweep(2, PARISH_BOUNDS);
        DUE.sentence("Term 1", "a column and a row, 0 .. 7; a width and a height, 1 .. 8 each");
        sweep(3, CLUES_BOUNDS);
        DUE.sentence("Term 1", "CUT, 1 .. 9 (3 at first)");
        DUE.is("CUT at first", Due.with(2, "").parish(0, 2), 3);
        DUE.is("CUT 1", Due.with(2, "cut 1;").parish(0, 2), 1);
        DUE.is("CUT 9", Due.with(2, "cut 9;").parish(0, 2), 9);
        DUE.sentence("Term 1", "CLUES .. of a BASKET that has one GAP, WIDE and HIGH as above");
        DUE.is("WIDE at first", Due.with(3, "").clues(0, 0), 6);
        DUE.is("HIGH at first", Due.with(3, "").clues(0, 1), 6);
        DUE.is("WIDE 2", Due.with(3, "size 2 8;").clues(0, 0), 2);
        DUE.is("HIGH 8", Due.with(3, "size 2 8;").clues(0, 1), 8);
    }

    private static void blanks() {
        DUE.sentence("Term 1", "blanks (10, 32) between");
        for (int sign = 0; sign < 256; sign++) {
            boolean blank = sign == 10 || sign == 32;
            String one = "" + (char) sign;
            DUE.fault(0, "wet;" + one, blank ? 0 : 1, blank ? -1 : 4);
            DUE.fault(0, one + "wet;", blank ? 0 : 1, blank ? -1 : 0);
            boolean stop = sign == ';';
            boolean letter = sign >= 'a' && sign <= 'z';
            int place = letter ? 0 : stop ? 4 : 3;
            DUE.fault(0, "wet" + one + ";", blank ? 0 : 1, blank ? -1 : place);
        }
        DUE.noFault(0, "\n \n");
        DUE.noFault(0, " \n size \n\n 2\n2 ; \n open\n0 0\n;");
        DUE.noFault(0, "");
    }

    private static void tokens() {
        DUE.sentence("Term 1", "TOKENS, as long as they go: words, rows of letters a .. z; NUMBERS; ; one byte");
        DUE.noFault(0, "size2 2;open0 0;rod0 1 1;wet;");
        DUE.noFault(1, "mend rod7;deed8 8 99;");
        DUE.fault(0, "size22;", 1, 6);
        DUE.fault(0, "size 2 2wet;", 1, 8);
        DUE.fault(0, "wetwet;", 1, 0);
        DUE.fault(0, "we t;", 1, 0);
        DUE.fault(0, "wet;;", 1, 4);
        DUE.fault(0, ";", 1, 0);
        DUE.fault(1, "mendrod 0;", 1, 0);
        DUE.fault(1, "mend rodstake 0;", 1, 5);
        DUE.fault(0, "size 1 0 2;", 1, 9);
        DUE.fault(0, "w", 1, 0);
        DUE.fault(0, "azaz;", 1, 0);
        DUE.fault(0, "open 0 -1;", 1, 7);
        DUE.sentence("Term 1", "NUMBERS, 1 or 2 digits (a longer row of digits is no token)");
        DUE.noFault(0, "size 02 08;open 00 07;rod 00 09 00;");
        DUE.fault(0, "open 000 0;", 1, 5);
        DUE.fault(0, "open 0 001;", 1, 7);
        DUE.fault(1, "deed 1 1 100;", 1, 9);
        DUE.fault(2, "rod 0060;", 1, 4);
        DUE.fault(2, "  \n 123", 1, 4);
        DUE.fault(2, "cut " + "9".repeat(596), 1, 4);
        DUE.fault(2, "rod 61;rod 611;", 1, 11);
    }

    private static void everyWord() {
        DUE.sentence("Term 1", "A BASKET's text, A YEAR's text, A PARISH's text, CLUES' text");
        for (int sort = 0; sort < 4; sort++) {
            for (String line : LINES[sort]) {
                DUE.noFault(sort, line);
                DUE.noFault(sort, line + line);
            }
            for (String word : WORDS) {
                String[] wrong = {word.substring(1), word + "s", word.substring(0, word.length() - 1) + "x", "x" + word};
                for (String is : wrong) {
                    DUE.fault(sort, " " + is + " 1 1;", 1, 1);
                }
                if (!begins(sort, word)) {
                    DUE.fault(sort, LINES[sort][0] + word, 1, LINES[sort][0].length());
                    DUE.fault(sort, word + " 1 1;", 1, 0);
                }
            }
        }
    }

    private static boolean begins(int sort, String word) {
        for (String line : LINES[sort]) {
            if (line.startsWith(word + " ")) {
                return true;
            }
        }
        return false;
    }

    private static void noTextGoesOn() {
        DUE.sentence("Term 1", "1 the first byte or token with which no text goes on");
        String[] probes = {"x", "1", ";", ",", "123", "wet", "rod"};
        for (int sort = 0; sort < 4; sort++) {
            for (String line : LINES[sort]) {
                String[] parts = line.split(" ");
                String before = LINES[sort][LINES[sort].length - 1] + "\n";
                for (String part : parts) {
                    for (String probe : probes) {
                        if (!goesOn(sort, parts[0], part, probe)) {
                            DUE.fault(sort, before + probe + " " + String.join(" ", parts), 1, before.length());
                            DUE.fault(sort, before + probe, 1, before.length());
                        }
                    }
                    before += part + " ";
                }
            }
        }
    }

    /** Whether a probe can stand where a part of a line stands. */
    private static boolean goesOn(int sort, String first, String part, String probe) {
        if (part.equals(first)) {
            return begins(sort, probe);
        }
        if (part.equals("rod") || part.equals("stake")) {
            return probe.equals("rod");
        }
        return part.equals(";") ? probe.equals(";") : probe.equals("1");
    }

    private static void textsThatBreakOff() {
        DUE.sentence("Term 1", "with places (a token's first byte; the end's)");
        for (int sort = 0; sort < 4; sort++) {
            for (String line : LINES[sort]) {
                String[] parts = line.split(" ");
                String text = "";
                for (int i = 0; i + 1 < parts.length; i++) {
                    text += parts[i];
                    DUE.fault(sort, text, 1, text.length());
                    text += " ";
                    DUE.fault(sort, text, 1, text.length());
                    DUE.fault(sort, text + "\n \n", 1, text.length() + 3);
                }
            }
        }
        DUE.fault(0, "wet" + " ".repeat(597), 1, 600);
    }

    private static void laterOnesStrike() {
        DUE.sentence("Term 1", "Later ones strike, but OPEN STROKES, DEEDS, RODS, PIECES, CLUES, which are further ones");
        WillowLaw x = Due.with(0, "size 2 3;rod 0 9 8;stake 0 7 6;size 4 5;rod 0 1 2;stake 0 3 4;wet;wet;"
            + "open 3 4;open 0 0;open 3 4;");
        int[] what = {0, 1, 2, 3, 10, 20, 30, 40, 100, 119};
        int[] want = {4, 5, 1, 2, 1, 2, 3, 4, -1, -1};
        for (int i = 0; i < what.length; i++) {
            DUE.is("basket(0, " + what[i] + ")", x.basket(0, what[i]), want[i]);
        }
        DUE.is("DEEDS", Due.with(1, "wet;wet;deed 1 1 1;deed 1 1 1;").deed(0, -1, 0), 4);
        WillowLaw y = Due.with(2, "cut 9;rod 5;need 4;rod 5;need 4;cut 1;");
        DUE.is("RODS", y.parish(0, 0), 2);
        DUE.is("PIECES", y.parish(0, 1), 2);
        DUE.is("CUT", y.parish(0, 2), 1);
        WillowLaw z = Due.with(3, "size 2 2;open 1 1;open 1 1;size 3 5;");
        DUE.is("CLUES", z.clues(0, 2), 2);
        DUE.is("WIDE of CLUES", z.clues(0, 0), 3);
        DUE.is("HIGH of CLUES", z.clues(0, 1), 5);
    }

    private static void fault1First() {
        DUE.sentence("Term 1", "If there is none (FAULT 1), the first by place");
        DUE.fault(0, "size 9 9;wet;x", 1, 13);
        DUE.fault(0, "open 6 0;x", 1, 9);
        DUE.fault(1, "deed 0 0 0;".repeat(41) + ";", 1, 451);
        DUE.fault(2, "rod 61;".repeat(8) + "rod", 1, 59);
        DUE.fault(3, "held 9 9;".repeat(12) + "held 1 123;", 1, 115);
        DUE.sentence("Term 1", "the first by place");
        DUE.fault(0, "size 1 9;open 8 8;", 2, 5);
        DUE.fault(0, "size 2 9;open 8 8;", 2, 7);
        DUE.fault(0, "size 2 2;open 8 8;", 2, 14);
        DUE.fault(1, "deed 1 1 1;".repeat(39) + "deed 1 1 1;deed 0 1 1;", 3, 440);
        DUE.fault(1, "deed 1 1 1;".repeat(39) + "deed 1 0 1;deed 0 1 1;", 2, 436);
        DUE.fault(1, "wet;".repeat(41) + "deed 0 1 1;", 3, 160);
        DUE.fault(2, "rod 1;".repeat(7) + "need 0;", 3, 36);
        DUE.fault(2, "rod 1;".repeat(6) + "need 0;rod 1;", 2, 41);
        DUE.fault(2, "rod 1;".repeat(6) + "cut 0;rod 1;", 2, 40);
        DUE.fault(2, "rod 1;".repeat(6) + "rod 0;", 3, 36);
        DUE.fault(2, "need 1;".repeat(8) + "rod 1;".repeat(6) + "rod 1;need 1;", 3, 92);
        DUE.fault(2, "need 1;".repeat(8) + "rod 1;".repeat(6) + "need 1;rod 1;", 3, 92);
        DUE.fault(3, "held 1 1;".repeat(10) + "size 9 9;held 1 1;", 2, 95);
        DUE.fault(3, "held 1 1;".repeat(11) + "size 9 9;", 3, 90);
        DUE.fault(3, "held 1 1;".repeat(10) + "held 0 1;", 3, 90);
        DUE.sentence("Term 1", "a line with such a NUMBER tells its DEED, ROD, PIECE, CLUE all the same");
        DUE.fault(1, "deed 0 1 1;" + "wet;".repeat(40), 2, 5);
        DUE.fault(2, "rod 0;".repeat(7), 2, 4);
        DUE.fault(2, "need 61;".repeat(9), 2, 5);
        DUE.fault(3, "slips 9 1;".repeat(11), 2, 6);
    }

    private static void tooMany() {
        DUE.sentence("Term 1", "A YEAR has DEEDS, at most 40; 3 a 41st DEED, at its first token");
        for (String line : LINES[1]) {
            String forty = "winter;".repeat(40);
            DUE.noFault(1, "winter;".repeat(39) + line);
            DUE.fault(1, forty + line, 3, forty.length());
            DUE.fault(1, forty + " \n" + line + line, 3, forty.length() + 2);
        }
        DUE.is("40 DEEDS", Due.with(1, "wet;".repeat(40)).deed(0, -1, 0), 40);
        DUE.is("the 40th", Due.with(1, "wet;".repeat(39) + "dry;").deed(0, 39, 0), 6);
        DUE.sentence("Term 1", "RODS, at most 6; 3 a 7th ROD, at its first token");
        DUE.noFault(2, "rod 60;".repeat(6) + "need 1;".repeat(8) + "cut 1;cut 2;cut 3;");
        DUE.fault(2, "rod 60;".repeat(6) + "need 1;".repeat(8) + " rod 1;", 3, 99);
        DUE.fault(2, "rod 60;".repeat(9), 3, 42);
        DUE.is("6 RODS", Due.with(2, "rod 1;".repeat(5) + "rod 60;").parish(0, 15), 60);
        DUE.sentence("Term 1", "PIECES, at most 8; 3 a 9th PIECE, at its first token");
        DUE.fault(2, "need 1;".repeat(8) + "rod 60;".repeat(6) + " need 1;", 3, 99);
        DUE.fault(2, "need 60;".repeat(11), 3, 64);
        DUE.is("8 PIECES", Due.with(2, "need 1;".repeat(7) + "need 60;").parish(0, 27), 60);
        DUE.sentence("Term 1", "CLUES are at most 10; 3 an 11th CLUE, at its first token");
        for (int i = 1; i < LINES[3].length; i++) {
            String ten = "shut 1 1;".repeat(10);
            DUE.noFault(3, "shut 1 1;".repeat(9) + LINES[3][i]);
            DUE.fault(3, ten + LINES[3][i], 3, 90);
            DUE.fault(3, "size 2 2;" + ten + "size 2 2; " + LINES[3][i] + LINES[3][i], 3, 109);
        }
        DUE.noFault(3, "size 2 2;".repeat(30) + "shut 1 1;".repeat(10) + "size 2 2;");
        DUE.is("10 CLUES", Due.with(3, "shut 1 1;".repeat(9) + "held 1 7;").clues(0, 39), 7);
    }

    private static void notThere() {
        DUE.sentence("Term 1", "at the end's place, of a BASKET: 4 a STROKE, a ROD, a STAKE that was told of and is not there");
        for (int size = 2; size <= 8; size++) {
            for (int i = 0; i < 8; i++) {
                boolean there = i < size;
                toldOf(0, "size " + size + " 8;open " + i + " 7;", there);
                toldOf(0, "size 8 " + size + ";open 7 " + i + ";", there);
                toldOf(0, "rod " + i + " 1 1;size 2 " + size + ";", there);
                toldOf(0, "stake " + i + " 1 1;size " + size + " 2;", there);
                toldOf(3, "size " + size + " 8;open " + i + " 7;", there);
                toldOf(3, "open 7 " + i + ";size 8 " + size + "; \n", there);
                toldOf(3, "size " + size + " 8;shut " + i + " 7;", there);
                toldOf(3, "shut 7 " + i + ";size 8 " + size + ";", there);
            }
        }
        toldOf(0, "open 5 5;rod 5 1 1;stake 5 1 1;", true);
        toldOf(0, "open 6 5;", false);
        toldOf(0, "open 5 6;", false);
        toldOf(0, "rod 6 1 1;", false);
        toldOf(0, "stake 6 1 1;", false);
        toldOf(0, "open 6 5;wet;rod 0 1 1; \n ", false);
        toldOf(0, "size 8 8;open 7 7;size 2 2;", false);
        toldOf(0, "size 2 2;open 7 7;size 8 8;", true);
        toldOf(3, "size 2 2;slips 8 8;held 8 8;", true);
        toldOf(3, "open 6 0;", false);
        toldOf(3, "shut 0 6;", false);
        toldOf(1, "mend rod 7;grow stake 7;weave 7 7;deed 8 8 1;", true);
        DUE.sentence("Term 1", "If there is none of these (FAULTS 1, 2, 3)");
        DUE.fault(0, "open 7 7;open 0 8;", 2, 16);
        DUE.fault(0, "rod 7 1 1;rod 0 1 10;", 2, 18);
        DUE.fault(3, "shut 7 7;" + "held 1 1;".repeat(10), 3, 90);
        DUE.fault(3, "shut 7 7;held 0 1;", 2, 14);
    }

    private static void toldOf(int sort, String text, boolean there) {
        DUE.fault(sort, text, there ? 0 : 4, there ? -1 : text.length());
    }

    public static void main(String[] args) {
        wideAndHigh();
        thickAndWear();
        strengths();
        numbersThatCannotBe();
        blanks();
        tokens();
        everyWord();
        noTextGoesOn();
        textsThatBreakOff();
        laterOnesStrike();
        fault1First();
        tooMany();
        notThere();
        DUE.finish();
    }
}
