/** Promises 1 to 5 and 31 to 33: the tape, texts and their FAULTS, images. */
public final class TapeAndTextsTest {
    private static final Due DUE = new Due("TapeAndTextsTest");
    private static final int BLANKS = 0x20202020;

    private static void aNewObject() {
        WillowLaw x = new WillowLaw();
        for (int sort = 0; sort < 4; sort++) {
            DUE.is("1: count(" + sort + ")", x.count(sort), 0);
        }
        for (int k = 0; k < 3; k++) {
            DUE.is("1: again(" + k + ")", x.again(k), false);
        }
        DUE.is("1: fault(0)", x.fault(0), 0);
        DUE.is("1: fault(1)", x.fault(1), WillowLaw.NONE);
        DUE.is("1: end(1)", x.end(1), -1);
        DUE.is("1: NONE", WillowLaw.NONE, -1);
    }

    private static void feeding() {
        WillowLaw x = new WillowLaw();
        for (int n = 20; n <= 600; n += 20) {
            DUE.is("2: feed", x.feed(BLANKS, BLANKS, BLANKS, BLANKS, BLANKS), n);
        }
        DUE.is("2: feed beyond 600", x.feed(1, 2, 3, 4, 5), -1);
        DUE.is("2: nothing came", x.end(601), -1);
        DUE.is("3: all", x.end(600), 600);
        DUE.is("3: end(581)", x.end(581), 581);
        DUE.is("2: feed at 581", x.feed(1, 2, 3, 4, 5), -1);
        DUE.is("3: end(582)", x.end(582), -1);
        DUE.is("3: end(-1)", x.end(-1), -1);
        DUE.is("3: end(least)", x.end(Integer.MIN_VALUE), -1);
        DUE.is("3: end(580)", x.end(580), 580);
        DUE.is("2: feed at 580", x.feed(1, 2, 3, 4, 5), 600);
        DUE.is("3: end(0)", x.end(0), 0);
        DUE.is("3: end(1) of none", x.end(1), -1);
        // "wet;" highest byte first, in each of the five numbers.
        DUE.is("2: five", x.feed(0x7765743b, 0x7765743b, 0x7765743b, 0x7765743b, 0x7765743b), 20);
        DUE.is("4: five", x.text(1, -1), 0);
        DUE.is("2: five deeds", x.deed(0, -1, 0), 5);
    }

    private static void takingTexts() {
        WillowLaw x = new WillowLaw();
        DUE.is("4: an empty text", x.text(0, -1), 0);
        DUE.is("4: a second", Due.text(x, 0, -1, "size 2 3;"), 1);
        DUE.is("4: the tape is empty", x.end(1), -1);
        DUE.is("4: a third", Due.text(x, 0, -1, "size 4 4;"), -2);
        DUE.is("4: fault of -2", x.fault(0), 0);
        DUE.is("4: the tape is empty, too", x.end(1), -1);
        DUE.is("4: in the place", Due.text(x, 0, 1, "size 5 4;"), 1);
        DUE.is("4: replaced", x.basket(1, 0), 5);
        DUE.is("4: the other one stays", x.basket(0, 0), 6);
        DUE.is("4: a FAULT", Due.text(x, 0, 1, "size 9 4;"), -1);
        DUE.is("4: stays with a FAULT", x.basket(1, 0), 5);
        DUE.is("4: the tape is empty with a FAULT", x.end(1), -1);
        DUE.is("4: no such place", Due.text(x, 0, 2, "size 9 4;"), -2);
        DUE.is("4: no text is read", x.fault(0), 0);
        DUE.is("4: no text is read, place", x.fault(1), -1);
        DUE.is("4: none yet to replace", Due.text(x, 1, 0, "wet;"), -2);
        DUE.is("4: at -2", Due.text(x, 1, -2, "wet;"), -2);
        DUE.is("4: sort 4", Due.text(x, 4, -1, ""), -2);
        DUE.is("4: sort -1", Due.text(x, -1, -1, ""), -2);
        DUE.is("31: baskets", x.count(0), 2);
        DUE.is("31: years", x.count(1), 0);
        Due.text(x, 3, -1, "");
        DUE.is("31: clues", x.count(3), 1);
        DUE.is("31: sort 4", x.count(4), -2);
        DUE.is("31: sort -1", x.count(-1), -2);
    }

    private static void faultOf(int sort, String text, int fault, int place) {
        DUE.fault(sort, text, fault, place);
    }

    private static void noText() {
        faultOf(0, "", 0, -1);
        faultOf(0, "\n  wet\n;", 0, -1);
        faultOf(0, "open1 1;open 01 0;", 0, -1);
        faultOf(0, "wet", 1, 3);
        faultOf(0, "wet  ", 1, 5);
        faultOf(0, "wet 1;", 1, 4);
        faultOf(0, "wets;", 1, 0);
        faultOf(0, "wet;;", 1, 4);
        faultOf(0, "wet;dry;", 1, 4);
        faultOf(0, "wet;Wet;", 1, 4);
        faultOf(0, "wet;\t", 1, 4);
        faultOf(0, "wet;\u00e9", 1, 4);
        faultOf(0, "size 4;", 1, 6);
        faultOf(0, "size 4 4 4;", 1, 9);
        faultOf(0, "open 123 0;", 1, 5);
        faultOf(0, "size 9 9;open 1;", 1, 15);
        faultOf(1, "mend 0;", 1, 5);
        faultOf(1, "mend rod stake;", 1, 9);
        faultOf(1, "deed 1 1 100;", 1, 9);
        faultOf(1, "size 2 2;", 1, 0);
        faultOf(2, "rod 1 1;", 1, 6);
        faultOf(3, "wet;", 1, 0);
    }

    private static void numbersThatCannotBe() {
        faultOf(0, "size 1 2;", 2, 5);
        faultOf(0, "size 2 9;", 2, 7);
        faultOf(0, "size 8 2;", 0, -1);
        faultOf(0, "open 8 0;", 2, 5);
        faultOf(0, "open 0 8;", 2, 7);
        faultOf(0, "rod 8 1 1;", 2, 4);
        faultOf(0, "rod 0 10 0;", 2, 6);
        faultOf(0, "rod 0 9 9;stake 0 0 10;", 2, 20);
        faultOf(0, "stake 8 0 0;", 2, 6);
        faultOf(1, "deed 0 1 1;", 2, 5);
        faultOf(1, "deed 1 9 1;", 2, 7);
        faultOf(1, "deed 8 8 99;deed 1 1 0;", 0, -1);
        faultOf(1, "mend rod 8;", 2, 9);
        faultOf(1, "grow stake 8;", 2, 11);
        faultOf(1, "weave 8 0;", 2, 6);
        faultOf(1, "weave 0 8;", 2, 8);
        faultOf(1, "mend rod 7;grow stake 7;weave 7 7;", 0, -1);
        faultOf(2, "rod 0;", 2, 4);
        faultOf(2, "rod 61;", 2, 4);
        faultOf(2, "need 0;", 2, 5);
        faultOf(2, "need 61;", 2, 5);
        faultOf(2, "cut 0;", 2, 4);
        faultOf(2, "cut 10;", 2, 4);
        faultOf(2, "rod 60;need 60;cut 9;rod 1;need 1;cut 1;", 0, -1);
        faultOf(3, "size 1 2;", 2, 5);
        faultOf(3, "open 8 0;", 2, 5);
        faultOf(3, "shut 0 8;", 2, 7);
        faultOf(3, "slips 0 1;", 2, 6);
        faultOf(3, "held 9 1;", 2, 5);
        faultOf(3, "held 8 8;slips 1 1;", 0, -1);
        // The first by place, whatever comes behind it; but FAULT 1 goes before.
        faultOf(0, "open 9 0;open 10 0;", 2, 5);
        faultOf(0, "open 9 0;open", 1, 13);
    }

    private static void tooMany() {
        faultOf(1, "wet;".repeat(40), 0, -1);
        faultOf(1, "wet;".repeat(41), 3, 160);
        faultOf(1, "wet;".repeat(41) + "deed 0 0 0;", 3, 160);
        faultOf(1, "deed 0 1 1;" + "wet;".repeat(40), 2, 5);
        faultOf(1, "wet;".repeat(40) + "deed 0 1 1;", 3, 160);
        faultOf(1, "wet;".repeat(41) + "x", 1, 164);
        faultOf(2, "rod 1;".repeat(6), 0, -1);
        faultOf(2, "rod 1;".repeat(6) + "cut 2;need 1;  rod 1;", 3, 51);
        faultOf(2, "need 1;".repeat(8), 0, -1);
        faultOf(2, "need 1;".repeat(9), 3, 56);
        faultOf(3, "held 1 1;".repeat(10) + "size 3 3;", 0, -1);
        faultOf(3, "held 1 1;".repeat(11), 3, 90);
        // A line whose NUMBER can't be counts all the same.
        faultOf(2, "rod 1;".repeat(5) + "rod 0;rod 1;", 2, 34);
        // So does one struck by nothing: OPEN STROKES have no such limit.
        faultOf(0, "open 1 1;".repeat(60), 0, -1);
    }

    private static void notThere() {
        faultOf(0, "open 6 0;", 4, 9);
        faultOf(0, "open 0 6;", 4, 9);
        faultOf(0, "open 5 5;rod 5 1 1;stake 5 1 1;", 0, -1);
        faultOf(0, "rod 6 1 1;", 4, 10);
        faultOf(0, "stake 6 1 1;", 4, 12);
        faultOf(0, "size 7 6;stake 6 1 1;", 0, -1);
        faultOf(0, "size 6 7;stake 6 1 1;", 4, 21);
        faultOf(0, "open 6 6;size 7 7;", 0, -1);
        faultOf(0, "size 7 7;open 6 6;size 6 6;  ", 4, 29);
        faultOf(0, "rod 7 1 1;size 2 9;", 2, 17);
        faultOf(3, "open 6 0;", 4, 9);
        faultOf(3, "shut 0 6;", 4, 9);
        faultOf(3, "shut 6 6;size 7 7;", 0, -1);
        faultOf(3, "size 2 2;held 8 8;slips 8 8;", 0, -1);
        faultOf(1, "mend rod 7;", 0, -1);
    }

    private static void laterOnesStrike() {
        WillowLaw x = Due.with(0, "rod 0 1 2;rod 0 3 4;size 3 3;size 4 2;open 1 1;open 1 1;open 0 0;wet;wet;");
        DUE.is("4: THICK", x.basket(0, 10), 3);
        DUE.is("4: WEAR", x.basket(0, 20), 4);
        DUE.is("4: WIDE", x.basket(0, 0), 4);
        DUE.is("4: HIGH", x.basket(0, 1), 2);
        DUE.is("4: OPEN", x.basket(0, 3), 2);
        WillowLaw y = Due.with(2, "cut 2;rod 5;rod 5;cut 7;need 1;need 1;");
        DUE.is("4: RODS", y.parish(0, 0), 2);
        DUE.is("4: PIECES", y.parish(0, 1), 2);
        DUE.is("4: CUT", y.parish(0, 2), 7);
        // What was told in the same place before is gone.
        Due.text(x, 0, 0, "");
        DUE.is("4: THICK at first", x.basket(0, 10), 2);
        DUE.is("4: WEAR at first", x.basket(0, 20), 0);
        DUE.is("4: WET at first", x.basket(0, 2), 0);
        DUE.is("4: OPEN at first", x.basket(0, 3), 0);
    }

    private static void images() {
        WillowLaw x = new WillowLaw();
        DUE.is("32: image(3)", x.image(3), false);
        DUE.is("32: image(-1)", x.image(-1), false);
        DUE.is("33: again(0)", x.again(0), false);
        Due.text(x, 0, -1, "size 3 4;rod 1 5 6;open 2 3;wet;");
        Due.text(x, 1, -1, "deed 1 2 3;");
        Due.text(x, 2, -1, "rod 9;need 4;cut 5;");
        Due.text(x, 3, -1, "size 5 5;slips 2 2;");
        Due.text(x, 0, -1, "size 9 4;");
        Due.tell(x, Due.bytes("wet;dry"));
        DUE.is("32: image(1)", x.image(1), true);
        x.end(0);
        Due.text(x, 0, 0, "");
        Due.text(x, 1, 0, "dry;dry;");
        Due.text(x, 2, 0, "");
        Due.text(x, 3, 0, "");
        Due.text(x, 0, -1, "size 2 2;");
        DUE.is("32: image(2)", x.image(2), true);
        DUE.is("33: again(1)", x.again(1), true);
        DUE.is("33: fault", x.fault(0), 2);
        DUE.is("33: place", x.fault(1), 5);
        DUE.is("33: baskets", x.count(0), 1);
        DUE.is("33: basket", x.basket(0, 1), 4);
        DUE.is("33: thick", x.basket(0, 11), 5);
        DUE.is("33: wear", x.basket(0, 21), 6);
        DUE.is("33: open", x.basket(0, 111), -1);
        DUE.is("33: wet", x.basket(0, 2), 1);
        DUE.is("33: deed", x.deed(0, 0, 3), 3);
        DUE.is("33: deeds", x.deed(0, -1, 0), 1);
        DUE.is("33: parish", x.parish(0, 10), 9);
        DUE.is("33: cut", x.parish(0, 2), 5);
        DUE.is("33: clues", x.clues(0, 10), 2);
        DUE.is("33: the tape", x.end(7), 7);
        DUE.is("33: its bytes", x.end(4), 4);
        DUE.is("33: are as they were", x.text(1, -1), 1);
        DUE.is("33: again(2)", x.again(2), true);
        DUE.is("33: two baskets", x.count(0), 2);
        DUE.is("33: one year", x.count(1), 1);
        DUE.is("33: years", x.deed(0, -1, 0), 2);
        DUE.is("33: without a FAULT", x.fault(1), -1);
        DUE.is("33: again(0) still", x.again(0), false);
        DUE.is("33: again(3)", x.again(3), false);
        DUE.is("33: again(-1)", x.again(-1), false);
        DUE.is("33: image 1 is whole", x.again(1) ? x.basket(0, 0) : 0, 3);
        Due.text(x, 0, 0, "size 7 7;");
        DUE.is("33: image 1 does not change along", x.again(1) ? x.basket(0, 0) : 0, 3);
        DUE.is("32: image 1 anew", x.image(1), true);
        DUE.is("32: image(0)", x.image(0), true);
        Due.text(x, 0, 0, "size 7 7;");
        DUE.is("33: image 0", x.again(0) ? x.basket(0, 0) : 0, 3);
        DUE.is("33: FAULT of image 0", x.fault(0), 2);
    }

    public static void main(String[] args) {
        aNewObject();
        feeding();
        takingTexts();
        noText();
        numbersThatCannotBe();
        tooMany();
        notThere();
        laterOnesStrike();
        images();
        DUE.finish();
    }
}
