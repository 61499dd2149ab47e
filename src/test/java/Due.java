import java.nio.charset.StandardCharsets;

/** What the tests share: texts put on the tape, and answers held against those that are due. */
final class Due {
    private final String test;
    private int wrong = 0;
    private int looked = 0;
    private int sentences = 0;
    private String sentence = "";
    private int lookedBefore = 0;

    Due(String test) {
        this.test = test;
    }

    /** The promise or the Term, and the document's words, shortened, that the answers from here on are due by. */
    void sentence(String where, String words) {
        closeSentence();
        sentences++;
        sentence = where + ": '" + words + "': ";
    }

    /** A sentence without an answer would be no test at all. */
    private void closeSentence() {
        if (!sentence.isEmpty() && looked == lookedBefore) {
            wrong++;
            System.out.println(test + ": " + sentence + "nothing was asked");
        }
        lookedBefore = looked;
    }

    void is(String call, long got, long want) {
        looked++;
        if (got != want) {
            wrong++;
            if (wrong <= 40) {
                System.out.println(test + ": " + sentence + call + " answered " + got + ", due is " + want);
            }
        }
    }

    void is(String call, boolean got, boolean want) {
        is(call, got ? 1 : 0, want ? 1 : 0);
    }

    /** What a new object answers to a text of a sort: its FAULT and the place, 0 and NONE without. */
    void fault(int sort, String text, int fault, int place) {
        WillowLaw x = new WillowLaw();
        String call = "'" + text + "' of sort " + sort;
        is(call, text(x, sort, -1, text), fault == 0 ? 0 : -1);
        is(call + " FAULT", x.fault(0), fault);
        is(call + " place", x.fault(1), place);
        is(call + " count", x.count(sort), fault == 0 ? 1 : 0);
    }

    void noFault(int sort, String text) {
        fault(sort, text, 0, WillowLaw.NONE);
    }

    void finish() {
        closeSentence();
        String of = sentences == 0 ? "" : " to " + sentences + " sentences";
        System.out.println(test + ": " + looked + " answers" + of + ", " + wrong + " wrong");
        if (wrong != 0 || looked == 0) {
            System.exit(1);
        }
    }

    static byte[] bytes(String text) {
        return text.getBytes(StandardCharsets.ISO_8859_1);
    }

    /** Puts a text on an empty tape. */
    static void tell(WillowLaw x, byte[] text) {
        for (int at = 0; at < text.length; at += 20) {
            int[] five = new int[5];
            for (int i = 0; i < 20; i++) {
                int is = at + i < text.length ? text[at + i] & 255 : 32;
                five[i / 4] = five[i / 4] << 8 | is;
            }
            x.feed(five[0], five[1], five[2], five[3], five[4]);
        }
        x.end(text.length);
    }

    static int text(WillowLaw x, int sort, int at, String text) {
        tell(x, bytes(text));
        return x.text(sort, at);
    }

    /** A new object with one text of a sort. */
    static WillowLaw with(int sort, String text) {
        WillowLaw x = new WillowLaw();
        if (text(x, sort, -1, text) != 0) {
            throw new IllegalStateException("not told: " + text);
        }
        return x;
    }
}
