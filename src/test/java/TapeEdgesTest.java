/** Promises 1 to 5 and 31 to 33: a test for each sentence that names an edge. */
public final class TapeEdgesTest {
    private static final Due DUE = new Due("TapeEdgesTest");
    private static final int BLANKS = 0x20202020;
    private static final int LEAST = Integer.MIN_VALUE;
    private static final int MOST = Integer.MAX_VALUE;
    /** Of each sort a text that can be told apart from an empty one, and one with a FAULT. */
    private static final String[] GOOD = {"size 3 4;", "winter;wet;", "rod 7;", "size 5 2;held 1 1;"};
    private static final String[] BAD = {"size 9 2;", "deed 0 1 1;", "rod 0;", "held 0 1;"};

    private static int blanks(WillowLaw x) {
        return x.feed(BLANKS, BLANKS, BLANKS, BLANKS, BLANKS);
    }

    private static WillowLaw withBlanks(int many) {
        WillowLaw x = new WillowLaw();
        for (int n = 0; n < many; n += 20) {
            blanks(x);
        }
        x.end(many);
        return x;
    }

    /** One number by which each of the texts GOOD is known. */
    private static int mark(WillowLaw x, int sort, int at) {
        switch (sort) {
            case 0:
                return x.basket(at, 1);
            case 1:
                return x.deed(at, -1, 0);
            case 2:
                return x.parish(at, 0);
            default:
                return x.clues(at, 2);
        }
    }

    private static final int[] GOOD_MARK = {4, 2, 1, 1};
    private static final int[] EMPTY_MARK = {6, 0, 0, 0};
    private static final int[] NO_MARK = {-2, -2, -1, -1};

    private static void aNewObject() {
        DUE.sentence("Promise 1", "No BASKETS, YEARS, PARISHES, CLUES");
        WillowLaw x = new WillowLaw();
        for (int sort = 0; sort < 4; sort++) {
            DUE.is("count(" + sort + ")", x.count(sort), 0);
            DUE.is("number 0 of sort " + sort, mark(x, sort, 0), NO_MARK[sort]);
            DUE.is("text(" + sort + ", 0)", x.text(sort, 0), -2);
        }
        DUE.sentence("Promise 1", "no images");
        for (int k = 0; k < 3; k++) {
            DUE.is("again(" + k + ")", x.again(k), false);
        }
        DUE.sentence("Promise 5", "what 0: the FAULT, 0 without, 1: its place, NONE without");
        DUE.is("fault(0) of a new object", new WillowLaw().fault(0), 0);
        DUE.is("fault(1) of a new object", new WillowLaw().fault(1), -1);
        DUE.sentence("The constants", "NONE = -1");
        DUE.is("NONE", WillowLaw.NONE, -1);
    }

    private static void feedUpTo600() {
        DUE.sentence("Promise 2", "NONE, and nothing comes, if there would be more than 600");
        for (int has = 0; has <= 600; has++) {
            WillowLaw x = withBlanks(has);
            int due = has <= 580 ? has + 20 : -1;
            DUE.is("feed behind " + has, blanks(x), due);
            int hasNow = has <= 580 ? has + 20 : has;
            DUE.is("end(" + (hasNow + 1) + ") behind it", x.end(hasNow + 1), -1);
            DUE.is("end(" + hasNow + ") behind it", x.end(hasNow), hasNow);
        }
        WillowLaw x = new WillowLaw();
        Due.tell(x, Due.bytes(" ".repeat(577) + "wet;"));
        DUE.is("feed behind 581", x.feed(0x78787878, 0x78787878, 0x78787878, 0x78787878, 0x78787878), -1);
        DUE.is("the text is as it was", x.text(1, -1), 0);
        DUE.is("its DEED", x.deed(0, 0, 0), 5);
    }

    private static void feedsBytes() {
        DUE.sentence("Promise 2", "twenty bytes come behind it, of each number the highest first");
        int[] signs = {0x78, 0xff, 0x80, 0x00, 0x7f};
        for (int at = 0; at < 20; at++) {
            for (int sign : signs) {
                int[] five = {BLANKS, BLANKS, BLANKS, BLANKS, BLANKS};
                int shift = 24 - 8 * (at % 4);
                five[at / 4] = five[at / 4] & ~(255 << shift) | sign << shift;
                WillowLaw x = new WillowLaw();
                DUE.is("feed", x.feed(five[0], five[1], five[2], five[3], five[4]), 20);
                DUE.is("text with a byte " + sign + " at " + at, x.text(0, -1), -1);
                DUE.is("its place", x.fault(1), at);
                blanks(x);
                x.feed(five[0], five[1], five[2], five[3], five[4]);
                x.text(0, -1);
                DUE.is("its place behind twenty", x.fault(1), 20 + at);
            }
        }
        DUE.sentence("Term 1", "THE TAPE has at most 600 bytes");
        for (int length = 1; length <= 600; length++) {
            DUE.fault(0, " ".repeat(length - 1) + "x", 1, length - 1);
        }
        DUE.noFault(1, " ".repeat(596) + "wet;");
        DUE.noFault(0, " ".repeat(600));
    }

    private static void endKeepsTheFirst() {
        DUE.sentence("Promise 3", "NONE if it has not so many, or n is below 0");
        int[] lengths = {0, 1, 19, 20, 21, 580, 599, 600};
        for (int has : lengths) {
            WillowLaw x = withBlanks(has);
            int[] none = {has + 1, has + 20, 601, MOST, -1, -2, LEAST};
            for (int n : none) {
                DUE.is("end(" + n + ") of " + has, x.end(n), -1);
            }
            DUE.is("still " + has, x.end(has), has);
            DUE.is("end(0) of " + has, x.end(0), 0);
            DUE.is("end(0) again", x.end(0), 0);
            DUE.is("end(1) of none", x.end(1), -1);
        }
        DUE.sentence("Promise 3", "The tape has its first n bytes alone");
        String text = "wet;dry;wet;winter;";
        int[] deeds = {0, 1, 2, 3, 4};
        int[] ends = {0, 4, 8, 12, 19};
        for (int i = 0; i < ends.length; i++) {
            WillowLaw x = new WillowLaw();
            Due.tell(x, Due.bytes(text));
            x.end(ends[i]);
            DUE.is("text", x.text(1, -1), 0);
            DUE.is("DEEDS of the first " + ends[i], x.deed(0, -1, 0), deeds[i]);
        }
        WillowLaw x = new WillowLaw();
        Due.tell(x, Due.bytes("wet;xxxx"));
        x.end(4);
        x.feed(0x6472793b, BLANKS, BLANKS, BLANKS, BLANKS);
        DUE.is("what was cut is gone", x.text(1, -1), 0);
        DUE.is("what came behind it is there", x.deed(0, 1, 0), 6);
    }

    private static void placesOfTexts() {
        DUE.sentence("Promise 4", "a further one (at NONE), or in the place of one: its number");
        for (int sort = 0; sort < 4; sort++) {
            WillowLaw x = new WillowLaw();
            DUE.is("the first", x.text(sort, -1), 0);
            DUE.is("the first's mark", mark(x, sort, 0), EMPTY_MARK[sort]);
            DUE.is("in its place", Due.text(x, sort, 0, GOOD[sort]), 0);
            DUE.is("count", x.count(sort), 1);
            DUE.is("the first's mark now", mark(x, sort, 0), GOOD_MARK[sort]);
            DUE.is("the second", x.text(sort, -1), 1);
            DUE.is("the second's mark", mark(x, sort, 1), EMPTY_MARK[sort]);
            DUE.is("in the second's place", Due.text(x, sort, 1, GOOD[sort]), 1);
            DUE.is("in the first's place", x.text(sort, 0), 0);
            DUE.is("count", x.count(sort), 2);
            DUE.is("the first's mark at last", mark(x, sort, 0), EMPTY_MARK[sort]);
            DUE.is("the second's mark at last", mark(x, sort, 1), GOOD_MARK[sort]);
        }
        DUE.sentence("Promise 4", "The tape is taken (and is empty then)");
        for (int sort = 0; sort < 4; sort++) {
            WillowLaw x = new WillowLaw();
            Due.text(x, sort, -1, GOOD[sort]);
            DUE.is("behind a text", x.end(1), -1);
            Due.text(x, sort, -1, BAD[sort]);
            DUE.is("behind a FAULT", x.end(1), -1);
            DUE.is("feed behind a FAULT", blanks(x), 20);
        }
    }

    private static void noneSuch() {
        DUE.sentence("Promise 4", "-2: there is none such");
        for (int sort = 0; sort < 4; sort++) {
            for (int many = 0; many < 3; many++) {
                WillowLaw x = new WillowLaw();
                for (int i = 0; i < many; i++) {
                    x.text(sort, -1);
                }
                int[] at = {many, 2, 3, -2, -3, LEAST, MOST};
                for (int is : at) {
                    DUE.is("text(" + sort + ", " + is + ") of " + many, Due.text(x, sort, is, GOOD[sort]), -2);
                    DUE.is("its FAULT", x.fault(0), 0);
                    DUE.is("count", x.count(sort), many);
                }
            }
        }
        DUE.sentence("Promise 4", "or no such sort");
        int[] sorts = {-1, -2, 4, 5, LEAST, MOST};
        for (int sort : sorts) {
            WillowLaw x = new WillowLaw();
            for (int at = -2; at <= 2; at++) {
                DUE.is("text(" + sort + ", " + at + ")", Due.text(x, sort, at, ""), -2);
            }
            for (int is = 0; is < 4; is++) {
                DUE.is("count(" + is + ") behind it", x.count(is), 0);
            }
        }
    }

    private static void asManyAsMayBe() {
        DUE.sentence("Promise 4", "-2: there are as many as may be");
        WillowLaw x = new WillowLaw();
        for (int sort = 0; sort < 4; sort++) {
            Due.text(x, sort, -1, GOOD[sort]);
            Due.text(x, sort, -1, GOOD[sort]);
            DUE.is("a third of sort " + sort, x.text(sort, -1), -2);
            DUE.is("count(" + sort + ")", x.count(sort), 2);
            DUE.is("the first stays", mark(x, sort, 0), GOOD_MARK[sort]);
            DUE.is("the second stays", mark(x, sort, 1), GOOD_MARK[sort]);
            DUE.is("the next sort has none", x.count(sort + 1), sort == 3 ? -2 : 0);
        }
        DUE.sentence("Promise 4", "(no text is read then, FAULT 0)");
        for (int sort = 0; sort < 4; sort++) {
            DUE.is("a FAULT", Due.text(x, sort, 0, BAD[sort]), -1);
            DUE.is("its number", x.fault(0), 2);
            DUE.is("a third with a FAULT", Due.text(x, sort, -1, BAD[sort]), -2);
            DUE.is("fault(0)", x.fault(0), 0);
            DUE.is("fault(1)", x.fault(1), -1);
            Due.text(x, sort, 0, BAD[sort]);
            DUE.is("no such sort", Due.text(x, 4, -1, BAD[sort]), -2);
            DUE.is("fault(0) without a sort", x.fault(0), 0);
            DUE.is("fault(1) without a sort", x.fault(1), -1);
        }
    }

    /** A text is told by itself: nothing of a former one, or of one with a FAULT, is in it. */
    private static void eachByItself() {
        DUE.sentence("Promise 4", "The tape is taken as a text (and that alone tells it)");
        String[] full = {"size 8 8;open 7 7;rod 0 9 9;rod 7 9 9;stake 0 9 9;stake 7 9 9;wet;", "winter;".repeat(40),
            "rod 9;".repeat(6) + "need 9;".repeat(8) + "cut 9;", "size 8 8;" + "shut 7 7;".repeat(10)};
        for (int sort = 0; sort < 4; sort++) {
            WillowLaw x = new WillowLaw();
            DUE.is("a full one", Due.text(x, sort, -1, full[sort]), 0);
            DUE.is("a full one with a FAULT", Due.text(x, sort, -1, full[sort] + ";"), -1);
            DUE.is("an empty one", x.text(sort, -1), 1);
            for (int what = 0; what < 140; what++) {
                String of = "what " + what + " of an empty one of sort " + sort;
                DUE.is(of, told(x, sort, 1, what), toldAtFirst(sort, what));
            }
            DUE.is("the full one stays", mark(x, sort, 0), sort == 0 ? 8 : sort == 1 ? 40 : sort == 2 ? 6 : 10);
        }
    }

    private static int told(WillowLaw x, int sort, int at, int what) {
        switch (sort) {
            case 0:
                return x.basket(at, what);
            case 1:
                return x.deed(at, what - 1, 0);
            case 2:
                return x.parish(at, what);
            default:
                return x.clues(at, what);
        }
    }

    private static int toldAtFirst(int sort, int what) {
        if (sort == 0) {
            int unit = what % 10;
            boolean twig = what >= 10 && what < 50 && unit < 6;
            int ofTwig = what / 10 % 2 == 1 ? 2 : 0;
            int rest = what >= 100 && what < 136 ? 4 : -2;
            return what < 2 ? 6 : what < 4 ? 0 : twig ? ofTwig : rest;
        }
        if (sort == 1) {
            return what == 0 ? 0 : -2;
        }
        if (sort == 2) {
            return what < 2 ? 0 : what == 2 ? 3 : -1;
        }
        return what < 2 ? 6 : what == 2 ? 0 : -1;
    }

    private static void aFault() {
        DUE.sentence("Promise 4", "NONE: a FAULT");
        for (int sort = 0; sort < 4; sort++) {
            WillowLaw x = new WillowLaw();
            DUE.is("a first", Due.text(x, sort, -1, BAD[sort]), -1);
            DUE.is("count", x.count(sort), 0);
            Due.text(x, sort, -1, GOOD[sort]);
            DUE.is("in its place", Due.text(x, sort, 0, BAD[sort]), -1);
            DUE.is("it is as it was", mark(x, sort, 0), GOOD_MARK[sort]);
            DUE.is("a second", Due.text(x, sort, -1, GOOD[sort] + "x"), -1);
            DUE.is("count", x.count(sort), 1);
            DUE.is("there is no second", mark(x, sort, 1), NO_MARK[sort]);
        }
        DUE.sentence("Promise 5", "Of the latest text()");
        WillowLaw x = new WillowLaw();
        Due.text(x, 0, -1, "wet;x");
        blanks(x);
        x.end(3);
        x.end(601);
        DUE.is("fault(0) behind feed and end", x.fault(0), 1);
        DUE.is("fault(1) behind feed and end", x.fault(1), 4);
        x.text(1, -1);
        DUE.is("fault(0) behind a text without", x.fault(0), 0);
        DUE.is("fault(1) behind a text without", x.fault(1), -1);
        DUE.sentence("Promise 5", "NONE for another what");
        int[] what = {-1, 2, 3, LEAST, MOST};
        for (int is : what) {
            DUE.is("fault(" + is + ") without", x.fault(is), -1);
        }
        Due.text(x, 0, -1, "size 2 2 2;");
        DUE.is("fault(1)", x.fault(1), 9);
        for (int is : what) {
            DUE.is("fault(" + is + ") with a FAULT", x.fault(is), -1);
        }
    }

    private static void counts() {
        DUE.sentence("Promise 31", "How many there are of a sort");
        WillowLaw x = new WillowLaw();
        for (int n = 1; n <= 8; n++) {
            int sort = (n - 1) / 2;
            x.text(sort, -1);
            for (int is = 0; is < 4; is++) {
                DUE.is("count(" + is + ") behind " + n + " texts", x.count(is), Math.max(0, Math.min(2, n - 2 * is)));
            }
        }
        DUE.sentence("Promise 31", "-2 for another one");
        int[] sorts = {-1, -2, 4, 5, LEAST, MOST};
        for (int sort : sorts) {
            DUE.is("count(" + sort + ")", x.count(sort), -2);
        }
    }

    private static void imagesThatAreNot() {
        DUE.sentence("Promise 32", "Image k (0 .. 2) .. true; false for another k");
        WillowLaw x = new WillowLaw();
        int[] none = {-1, -2, 3, 4, LEAST, MOST};
        for (int k : none) {
            DUE.is("image(" + k + ")", x.image(k), false);
            DUE.is("again(" + k + ") behind it", x.again(k), false);
        }
        for (int k = 0; k < 3; k++) {
            DUE.is("again(" + k + ") before", x.again(k), false);
            DUE.is("image(" + k + ")", x.image(k), true);
            DUE.is("again(" + k + ") behind it", x.again(k), true);
            DUE.is("again(" + k + ") twice", x.again(k), true);
        }
        DUE.sentence("Promise 33", "false if there is none such");
        WillowLaw y = new WillowLaw();
        y.image(1);
        Due.text(y, 0, -1, GOOD[0]);
        Due.text(y, 1, -1, "x");
        blanks(y);
        int[] notThere = {0, 2, -1, 3, LEAST, MOST};
        for (int k : notThere) {
            DUE.is("again(" + k + ")", y.again(k), false);
            DUE.is("all stays: count(0)", y.count(0), 1);
            DUE.is("all stays: the BASKET", mark(y, 0, 0), GOOD_MARK[0]);
            DUE.is("all stays: the FAULT", y.fault(0), 1);
            DUE.is("all stays: the tape", y.end(20), 20);
        }
        for (int k : none) {
            y.image(k);
        }
        DUE.is("image 1 is as it was", y.again(1) ? y.count(0) : -9, 0);
    }

    private static void imagesOfAll() {
        DUE.sentence("Promise 32", "all that is told (the tape, the FAULT, too), as it is now");
        WillowLaw x = new WillowLaw();
        x.image(0);
        for (int sort = 0; sort < 4; sort++) {
            Due.text(x, sort, -1, GOOD[sort]);
        }
        Due.text(x, 0, -1, "  x");
        Due.tell(x, Due.bytes("wet;dry;"));
        x.image(1);
        for (int sort = 0; sort < 4; sort++) {
            DUE.is("other bytes on the tape", x.feed(-1, -1, -1, -1, -1), sort == 0 ? 28 : 20);
            DUE.is("and none", x.end(0), 0);
            x.text(sort, -1);
            x.text(sort, 0);
        }
        x.image(2);
        DUE.is("again(1)", x.again(1), true);
        for (int sort = 0; sort < 4; sort++) {
            DUE.is("count(" + sort + ")", x.count(sort), 1);
            DUE.is("told of sort " + sort, mark(x, sort, 0), GOOD_MARK[sort]);
        }
        DUE.is("fault(0)", x.fault(0), 1);
        DUE.is("fault(1)", x.fault(1), 2);
        DUE.is("the tape's length", x.end(9), -1);
        DUE.is("the tape", x.text(1, 0), 0);
        DUE.is("the tape's text", x.deed(0, 1, 0), 6);
        DUE.sentence("Promise 33", "All that is as image k has it");
        DUE.is("again(2)", x.again(2), true);
        for (int sort = 0; sort < 4; sort++) {
            DUE.is("count(" + sort + ")", x.count(sort), 2);
            DUE.is("told of sort " + sort, mark(x, sort, 0), EMPTY_MARK[sort]);
        }
        DUE.is("fault(0)", x.fault(0), 0);
        DUE.is("again(0), of a new object", x.again(0), true);
        for (int sort = 0; sort < 4; sort++) {
            DUE.is("count(" + sort + ")", x.count(sort), 0);
            DUE.is("told of sort " + sort, mark(x, sort, 0), NO_MARK[sort]);
        }
        DUE.is("an empty tape", x.end(1), -1);
        DUE.is("again(1) once more", x.again(1), true);
        DUE.is("its BASKET", mark(x, 0, 0), GOOD_MARK[0]);
        DUE.is("its tape", x.end(8), 8);
    }

    private static void imagesAnew() {
        DUE.sentence("Promise 32", "Image k is all that is told, as it is now (in the place of what image k was)");
        WillowLaw x = new WillowLaw();
        for (int high = 2; high <= 8; high++) {
            Due.text(x, 0, x.count(0) - 1, "size 2 " + high + ";");
            DUE.is("image(1)", x.image(1), true);
            Due.text(x, 0, 0, "");
            DUE.is("as it was", x.again(1) ? x.basket(0, 1) : -9, high);
        }
        x.image(0);
        Due.text(x, 0, 0, "size 3 3;");
        x.image(2);
        DUE.is("image 0 is by itself", x.again(0) ? x.basket(0, 1) : -9, 8);
        DUE.is("image 2 is by itself", x.again(2) ? x.basket(0, 1) : -9, 3);
        Due.text(x, 0, 0, "size 4 4;");
        DUE.is("image 2 does not change along", x.again(2) ? x.basket(0, 1) : -9, 3);
    }

    public static void main(String[] args) {
        aNewObject();
        feedUpTo600();
        feedsBytes();
        endKeepsTheFirst();
        placesOfTexts();
        noneSuch();
        asManyAsMayBe();
        eachByItself();
        aFault();
        counts();
        imagesThatAreNot();
        imagesOfAll();
        imagesAnew();
        DUE.finish();
    }
}
