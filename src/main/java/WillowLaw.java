/** Willows weave the law: the face that DOC.md tells, promise by promise. */
public final class WillowLaw {
    public static final int NONE = -1;

    private static final int NO_SUCH = -2;
    private static final int TAPE = 600;
    private static final int NUMBER_BYTES = 4;
    private static final int FEED_BYTES = 20;
    private static final int BASKETS = 0;
    private static final int YEARS = 1;
    private static final int PARISHES = 2;
    private static final int CLUE_TEXTS = 3;
    private static final int SORTS = 4;
    private static final int OF_A_SORT = 2;
    private static final int IMAGES = 3;
    private static final int SIDE = 8;
    private static final int STROKES = 64;
    private static final int FAR = 1000000;

    private final Told now;
    private final Told[] images;
    private final Reader reader;
    private final Season season;
    private final Strokes strokes;
    private final Saw saw;
    private final Search search;

    public WillowLaw() {
        now = new Told();
        images = new Told[IMAGES];
        reader = new Reader(now.tape);
        season = new Season();
        strokes = new Strokes();
        saw = new Saw();
        search = new Search();
    }

    // ---- the tape and the texts ----

    public int feed(int a, int b, int c, int d, int e) {
        if (now.length > TAPE - FEED_BYTES) {
            return NONE;
        }
        now.put(a);
        now.put(b);
        now.put(c);
        now.put(d);
        now.put(e);
        return now.length;
    }

    public int end(int n) {
        if (n < 0 || n > now.length) {
            return NONE;
        }
        now.length = n;
        return n;
    }

    public int text(int sort, int at) {
        int length = now.length;
        now.length = 0;
        now.flaw = 0;
        now.place = NONE;
        if (sort < 0 || sort >= SORTS) {
            return NO_SUCH;
        }
        int many = now.many[sort];
        boolean further = at == NONE;
        if (further ? many >= OF_A_SORT : at < 0 || at >= many) {
            return NO_SUCH;
        }
        reader.read(sort, length);
        if (reader.flaw != 0) {
            now.flaw = reader.flaw;
            now.place = reader.place;
            return NONE;
        }
        int number = further ? many : at;
        now.keep(sort, number, reader);
        if (further) {
            now.many[sort] = many + 1;
        }
        return number;
    }

    public int fault(int what) {
        if (what == 0) {
            return now.flaw;
        }
        return what == 1 ? now.place : NONE;
    }

    public int count(int sort) {
        return sort < 0 || sort >= SORTS ? NO_SUCH : now.many[sort];
    }

    public boolean image(int k) {
        if (k < 0 || k >= IMAGES) {
            return false;
        }
        Told image = images[k];
        if (image == null) {
            image = new Told();
            images[k] = image;
        }
        image.take(now);
        return true;
    }

    public boolean again(int k) {
        if (k < 0 || k >= IMAGES) {
            return false;
        }
        Told image = images[k];
        if (image == null) {
            return false;
        }
        now.take(image);
        return true;
    }

    // ---- a BASKET ----

    public int basket(int basket, int what) {
        Basket b = now.basketAt(basket);
        if (b == null) {
            return NO_SUCH;
        }
        switch (what) {
            case 0:
                return b.wide;
            case 1:
                return b.high;
            case 2:
                return b.wet ? 1 : 0;
            case 3:
                return Long.bitCount(b.open);
            default:
                return b.part(what);
        }
    }

    public int slips(int basket, int width, int height, boolean hold) {
        Basket b = now.basketAt(basket);
        if (b == null || !isSize(width, height)) {
            return NO_SUCH;
        }
        return hold ? b.holdOf(width, height) : b.gapFor(width, height);
    }

    public int opens(int basket, int width, int height, boolean place) {
        Basket b = now.basketAt(basket);
        if (b == null || !isSize(width, height)) {
            return NONE;
        }
        int at = b.likeliest(width, height);
        return place || at == NONE ? at : b.shutIn(at, width, height);
    }

    public int closes(int basket, int width, int height, int k) {
        Basket b = now.basketAt(basket);
        if (b == null || !isSize(width, height)) {
            return NONE;
        }
        int many = strokes.fewestClosed(b, width, height);
        if (k == NONE) {
            return many;
        }
        return k < 0 || k >= many || k >= Strokes.CLOSED ? NONE : b.strokeOf(strokes.closed[k]);
    }

    public int sieve(int basket, int width, int height, int other, int high) {
        Basket b = now.basketAt(basket);
        if (b == null || !isSize(width, height) || !isSize(other, high)) {
            return NONE;
        }
        int best = NONE;
        for (int rods = 0; rods < 1 << b.high; rods++) {
            boolean fewer = best == NONE || Integer.bitCount(rods) < Integer.bitCount(best);
            if (fewer && b.gapWithout(rods, width, height) != NONE
                    && b.gapWithout(rods, other, high) == NONE) {
                best = rods;
            }
        }
        return best;
    }

    public int escape(int basket, int stroke, boolean steps) {
        Basket b = now.basketAt(basket);
        if (b == null || !b.hasStroke(stroke)) {
            return NONE;
        }
        strokes.spread(b, stroke);
        int key = strokes.toTheRim(b);
        return steps ? Strokes.stepsOf(key) : Strokes.forceOf(key);
    }

    public int tunnel(int basket, int from, int to) {
        Basket b = now.basketAt(basket);
        if (b == null || !b.hasStroke(from) || !b.hasStroke(to)) {
            return NONE;
        }
        strokes.spread(b, from);
        return Strokes.forceOf(strokes.key[to]);
    }

    public int holes(int basket, int what) {
        Basket b = now.basketAt(basket);
        if (b == null || what < 0 || what > 2) {
            return NONE;
        }
        return what == 2 ? b.largestGap() : b.holesOrLargest(what == 1);
    }

    public long last(int basket, int n, int what) {
        Basket b = now.basketAt(basket);
        if (b == null || n < 0 || n > SIDE || what < 0 || what > 2) {
            return NONE;
        }
        int mended = b.mendedFirst(n);
        if (what == 2) {
            return mended;
        }
        long likely = b.soundWays(mended);
        long all = b.allWays();
        long common = commonDivisor(likely, all);
        if (common <= 0) {
            return NONE;
        }
        return what == 0 ? likely / common : all / common;
    }

    public int unlike(int one, int other, boolean stricter) {
        Basket a = now.basketAt(one);
        Basket b = now.basketAt(other);
        if (a == null || b == null) {
            return NO_SUCH;
        }
        int first = 0;
        int second = 0;
        for (int w = 1; w <= SIDE; w++) {
            for (int h = 1; h <= SIDE; h++) {
                boolean byFirst = a.gapFor(w, h) != NONE;
                boolean bySecond = b.gapFor(w, h) != NONE;
                first += byFirst && !bySecond ? 1 : 0;
                second += bySecond && !byFirst ? 1 : 0;
            }
        }
        return stricter ? strictness(first, second) : first + second;
    }

    /** Of how many sizes slip through the first alone, and through the second alone. */
    private static int strictness(int first, int second) {
        if (first == 0) {
            return second == 0 ? 2 : 0;
        }
        return second == 0 ? 1 : NONE;
    }

    public int stout(int basket, int width, int height, boolean hold) {
        Basket b = now.basketAt(basket);
        if (b == null || !isSize(width, height)) {
            return NONE;
        }
        int best = NONE;
        int bestHold = NONE;
        for (int twig = 0; twig < 2 * SIDE; twig++) {
            int is = b.holdIfThicker(twig, width, height);
            if (is > bestHold) {
                best = twig;
                bestHold = is;
            }
        }
        return hold ? bestHold : best;
    }

    public int soft(int basket, int n, boolean hold) {
        Basket b = now.basketAt(basket);
        if (b == null || n < 1 || n > STROKES) {
            return NONE;
        }
        int best = NONE;
        int bestHold = NONE;
        for (int w = 1; w <= SIDE; w++) {
            int h = n / w;
            int is = h >= 1 && h <= SIDE && w * h == n ? b.holdOf(w, h) : NONE;
            if (is != NONE && (best == NONE || is < bestHold)) {
                best = 10 * w + h;
                bestHold = is;
            }
        }
        return hold ? bestHold : best;
    }

    public int mirrored(int basket, int what) {
        Basket b = now.basketAt(basket);
        if (b == null) {
            return NONE;
        }
        switch (what) {
            case 0:
                return b.mirrors();
            case 1:
                return b.crowdedRow();
            case 2:
                return b.crowdedColumn();
            default:
                return NONE;
        }
    }

    // ---- a YEAR ----

    public int deed(int year, int k, int what) {
        Year y = now.yearAt(year);
        if (y == null) {
            return NO_SUCH;
        }
        if (k == NONE && what == 0) {
            return y.many;
        }
        return y.has(k) && what >= 0 && what < Year.PARTS ? y.part(k, what) : NO_SUCH;
    }

    public int till(int basket, int year) {
        Basket b = now.basketAt(basket);
        Year y = now.yearAt(year);
        return b == null || y == null ? NONE : season.pass(b, y, y.many);
    }

    public int state(int basket, int year, int n, int what) {
        Basket b = now.basketAt(basket);
        Year y = now.yearAt(year);
        if (b == null || y == null || n < 0 || n > y.many) {
            return NO_SUCH;
        }
        return season.pass(b, y, n) == n ? season.part(what) : NO_SUCH;
    }

    public int drawn(int basket, int seed, int n, int what) {
        Basket b = now.basketAt(basket);
        if (b == null || n < 0 || n > Season.DRAWS) {
            return NO_SUCH;
        }
        season.draw(b, seed, n);
        return season.part(what);
    }

    public int precedent(int basket, int year, int width, int height) {
        Basket b = now.basketAt(basket);
        Year y = now.yearAt(year);
        if (b == null || y == null || !isSize(width, height)) {
            return NO_SUCH;
        }
        season.begin(b);
        for (int n = 0; n <= y.many; n++) {
            if (season.basket.gapFor(width, height) != NONE) {
                return n;
            }
            if (!season.happens(y, n)) {
                return NONE;
            }
        }
        return NONE;
    }

    // ---- a PARISH ----

    public int parish(int parish, int what) {
        Parish p = now.parishAt(parish);
        return p == null ? NONE : p.part(what);
    }

    public int cutting(int parish, int k) {
        Parish p = now.parishAt(parish);
        if (p == null) {
            return NONE;
        }
        switch (k) {
            case -1:
                return saw.fewest(p);
            case -2:
                return saw.spare(p);
            case -3:
                return saw.longest(p);
            default:
                return k < 0 || k >= p.pieces ? NONE : saw.rodOf(p, k);
        }
    }

    public int kept(int parish) {
        Parish p = now.parishAt(parish);
        if (p == null) {
            return NONE;
        }
        int fewest = saw.fewest(p);
        return fewest == NONE ? NONE : p.rods - fewest;
    }

    public int game(int parish, boolean last, boolean first) {
        Parish p = now.parishAt(parish);
        if (p == null) {
            return NO_SUCH;
        }
        if (first) {
            return p.winningCut(last);
        }
        return p.wins(NONE, 0, last) ? 1 : 0;
    }

    public int divided(int parish, int n, int k) {
        Parish p = now.parishAt(parish);
        if (p == null || n < 1 || n > Saw.HEIRS || k < NONE || k >= p.rods) {
            return NONE;
        }
        saw.divide(p, n);
        return k == NONE ? saw.most : saw.heir[k];
    }

    // ---- CLUES ----

    public int clues(int clues, int what) {
        Clues c = now.cluesAt(clues);
        return c == null ? NONE : c.part(what);
    }

    public int gaps(int clues, int what) {
        Clues c = now.cluesAt(clues);
        if (c == null) {
            return NO_SUCH;
        }
        int strokes = c.wide * c.high;
        if (what == 0) {
            return search.howMany(c);
        }
        if (what == 1) {
            return search.bestAsked(c);
        }
        if (what >= 100 && what < 100 + strokes) {
            return search.sureOf(c, what - 100);
        }
        return what >= 1000 ? search.gapAt(c, what - 1000) : NO_SUCH;
    }

    // ---- small helps ----

    private static boolean isSize(int width, int height) {
        return width >= 1 && width <= SIDE && height >= 1 && height <= SIDE;
    }

    private static long commonDivisor(long a, long b) {
        long x = a;
        long y = b;
        // Each two rounds halve the greater number, so 200 are more than a long can need.
        for (int round = 0; round < 200 && y != 0; round++) {
            long rest = x % y;
            x = y;
            y = rest;
        }
        return x;
    }

    /** All that is told: what an image keeps. */
    private static final class Told {
        final byte[] tape = new byte[TAPE];
        final int[] many = new int[SORTS];
        final Basket[] baskets = new Basket[OF_A_SORT];
        final Year[] years = new Year[OF_A_SORT];
        final Parish[] parishes = new Parish[OF_A_SORT];
        final Clues[] clueTexts = new Clues[OF_A_SORT];
        int length;
        int flaw;
        int place = NONE;

        Told() {
            for (int i = 0; i < OF_A_SORT; i++) {
                baskets[i] = new Basket();
                years[i] = new Year();
                parishes[i] = new Parish();
                clueTexts[i] = new Clues();
            }
        }

        void put(int number) {
            for (int i = 0; i < NUMBER_BYTES && length < TAPE; i++) {
                tape[length] = (byte) (number >>> (24 - 8 * i));
                length++;
            }
        }

        Basket basketAt(int i) {
            return i < 0 || i >= many[BASKETS] || i >= OF_A_SORT ? null : baskets[i];
        }

        Year yearAt(int i) {
            return i < 0 || i >= many[YEARS] || i >= OF_A_SORT ? null : years[i];
        }

        Parish parishAt(int i) {
            return i < 0 || i >= many[PARISHES] || i >= OF_A_SORT ? null : parishes[i];
        }

        Clues cluesAt(int i) {
            return i < 0 || i >= many[CLUE_TEXTS] || i >= OF_A_SORT ? null : clueTexts[i];
        }

        void keep(int sort, int at, Reader from) {
            if (at < 0 || at >= OF_A_SORT) {
                return;
            }
            switch (sort) {
                case BASKETS:
                    baskets[at].take(from.basket);
                    break;
                case YEARS:
                    years[at].take(from.year);
                    break;
                case PARISHES:
                    parishes[at].take(from.parish);
                    break;
                default:
                    clueTexts[at].take(from.clues);
                    break;
            }
        }

        void take(Told other) {
            System.arraycopy(other.tape, 0, tape, 0, TAPE);
            System.arraycopy(other.many, 0, many, 0, SORTS);
            length = other.length;
            flaw = other.flaw;
            place = other.place;
            for (int i = 0; i < OF_A_SORT; i++) {
                baskets[i].take(other.baskets[i]);
                years[i].take(other.years[i]);
                parishes[i].take(other.parishes[i]);
                clueTexts[i].take(other.clueTexts[i]);
            }
        }
    }

    /** The TOKENS of the tape, one at a time. */
    private static final class Tokens {
        static final int END = 0;
        static final int WORD = 1;
        static final int NUMBER = 2;
        static final int STOP = 3;
        private static final int BLANK = 4;
        private static final int NOT_ANY = 5;
        private static final int DIGITS = 2;

        final byte[] tape;
        int length;
        int kind;
        int first;
        int behind;
        int number;

        Tokens(byte[] tape) {
            this.tape = tape;
        }

        void begin(int bytes) {
            length = Math.min(bytes, tape.length);
            behind = 0;
            advance();
        }

        /** Of which kind of TOKEN a byte can be a part. */
        private int kindAt(int i) {
            if (i < 0 || i >= length) {
                return END;
            }
            byte is = tape[i];
            if (is >= 'a' && is <= 'z') {
                return WORD;
            }
            if (is >= '0' && is <= '9') {
                return NUMBER;
            }
            if (is == ';') {
                return STOP;
            }
            return is == 10 || is == 32 ? BLANK : NOT_ANY;
        }

        void advance() {
            while (behind < length && kindAt(behind) == BLANK) {
                behind++;
            }
            first = behind;
            kind = kindAt(first);
            if (kind != END) {
                behind++;
            }
            boolean row = kind == WORD || kind == NUMBER;
            while (row && behind < length && kindAt(behind) == kind) {
                behind++;
            }
            if (kind == NUMBER) {
                takeNumber();
            }
        }

        private void takeNumber() {
            if (behind - first > DIGITS) {
                kind = NOT_ANY;
                return;
            }
            number = 0;
            for (int i = first; i < behind && i < length; i++) {
                number = 10 * number + (tape[i] - '0');
            }
        }

        boolean isWord(String word) {
            if (kind != WORD || word.length() != behind - first || behind > length) {
                return false;
            }
            for (int i = 0; i < word.length(); i++) {
                if (word.charAt(i) != tape[first + i]) {
                    return false;
                }
            }
            return true;
        }
    }

    /** Reads a text into a draft of its own, so that a text with a FAULT changes nothing. */
    private static final class Reader {
        static final int NO_TEXT = 1;
        static final int NO_NUMBER = 2;
        static final int TOO_MANY = 3;
        static final int NOT_THERE = 4;

        final Tokens tokens;
        final Basket basket = new Basket();
        final Year year = new Year();
        final Parish parish = new Parish();
        final Clues clues = new Clues();
        int flaw;
        int place;
        int farColumn;
        int farRow;

        Reader(byte[] tape) {
            tokens = new Tokens(tape);
        }

        void read(int sort, int length) {
            flaw = 0;
            place = NONE;
            farColumn = 0;
            farRow = 0;
            basket.begin();
            year.many = 0;
            parish.begin();
            clues.begin();
            tokens.begin(length);
            // Each line takes bytes, so there are fewer lines than bytes.
            for (int line = 0; line < TAPE && goesOn() && tokens.kind != Tokens.END; line++) {
                switch (sort) {
                    case BASKETS:
                        readBasketLine();
                        break;
                    case YEARS:
                        readYearLine();
                        break;
                    case PARISHES:
                        readParishLine();
                        break;
                    default:
                        readCluesLine();
                        break;
                }
                readStop();
            }
            if (sort == BASKETS) {
                lookForAll(basket.wide, basket.high);
            } else if (sort == CLUE_TEXTS) {
                lookForAll(clues.wide, clues.high);
            }
        }

        private void readBasketLine() {
            if (readWord("size")) {
                basket.wide = readNumber(2, SIDE);
                basket.high = readNumber(2, SIDE);
            } else if (readWord("open")) {
                int column = readColumn();
                int row = readRow();
                basket.open |= Basket.bit(row, column);
            } else if (readWord("rod")) {
                readTwig(0, readRow());
            } else if (readWord("stake")) {
                readTwig(1, readColumn());
            } else if (readWord("wet")) {
                basket.wet = true;
            } else {
                refuse();
            }
        }

        private void readTwig(int side, int which) {
            int thick = readNumber(0, 9);
            int wear = readNumber(0, 9);
            basket.setTwig(side, which, thick, wear);
        }

        private void readYearLine() {
            if (year.many >= Year.DEEDS) {
                note(TOO_MANY, tokens.first);
            }
            if (readWord("deed")) {
                int width = readNumber(1, SIDE);
                int height = readNumber(1, SIDE);
                year.add(Year.DEED, width, height, readNumber(0, 99));
            } else if (readWord("mend")) {
                readCare(Year.MEND);
            } else if (readWord("grow")) {
                readCare(Year.GROW);
            } else if (readWord("weave")) {
                int column = readNumber(0, SIDE - 1);
                year.add(Year.WEAVE, column, readNumber(0, SIDE - 1), NONE);
            } else if (readWord("winter")) {
                year.add(Year.WINTER, NONE, NONE, NONE);
            } else if (readWord("wet")) {
                year.add(Year.WET, NONE, NONE, NONE);
            } else if (readWord("dry")) {
                year.add(Year.DRY, NONE, NONE, NONE);
            } else {
                refuse();
            }
        }

        private void readCare(int kind) {
            int side = 0;
            if (readWord("stake")) {
                side = 1;
            } else if (!readWord("rod")) {
                refuse();
            }
            year.add(kind, side, readNumber(0, SIDE - 1), NONE);
        }

        private void readParishLine() {
            int at = tokens.first;
            if (readWord("rod")) {
                if (parish.rods >= Parish.RODS) {
                    note(TOO_MANY, at);
                }
                parish.addRod(readNumber(1, Parish.LONGEST));
            } else if (readWord("need")) {
                if (parish.pieces >= Parish.PIECES) {
                    note(TOO_MANY, at);
                }
                parish.addPiece(readNumber(1, Parish.LONGEST));
            } else if (readWord("cut")) {
                parish.cut = readNumber(1, 9);
            } else {
                refuse();
            }
        }

        private void readCluesLine() {
            if (readWord("size")) {
                clues.wide = readNumber(2, SIDE);
                clues.high = readNumber(2, SIDE);
                return;
            }
            if (clues.many >= Clues.MOST) {
                note(TOO_MANY, tokens.first);
            }
            int kind = readClueWord();
            boolean ofStroke = kind == Clues.OPEN || kind == Clues.SHUT;
            int a = ofStroke ? readColumn() : readNumber(1, SIDE);
            int b = ofStroke ? readRow() : readNumber(1, SIDE);
            clues.add(kind, a, b);
        }

        private int readClueWord() {
            if (readWord("open")) {
                return Clues.OPEN;
            }
            if (readWord("shut")) {
                return Clues.SHUT;
            }
            if (readWord("slips")) {
                return Clues.SLIPS;
            }
            if (!readWord("held")) {
                refuse();
            }
            return Clues.HELD;
        }

        private int readColumn() {
            int column = readNumber(0, SIDE - 1);
            farColumn = Math.max(farColumn, column);
            return column;
        }

        private int readRow() {
            int row = readNumber(0, SIDE - 1);
            farRow = Math.max(farRow, row);
            return row;
        }

        private boolean goesOn() {
            return flaw != NO_TEXT;
        }

        private boolean readWord(String word) {
            if (!goesOn() || !tokens.isWord(word)) {
                return false;
            }
            tokens.advance();
            return true;
        }

        /** A NUMBER; the least one that can be, where none is or one that can't be, so that rows stay within bounds. */
        private int readNumber(int least, int most) {
            if (!goesOn() || tokens.kind != Tokens.NUMBER) {
                refuse();
                return least;
            }
            int is = tokens.number;
            if (is < least || is > most) {
                note(NO_NUMBER, tokens.first);
                is = least;
            }
            tokens.advance();
            return is;
        }

        private void readStop() {
            if (goesOn() && tokens.kind == Tokens.STOP) {
                tokens.advance();
            } else {
                refuse();
            }
        }

        private void refuse() {
            if (flaw != NO_TEXT) {
                flaw = NO_TEXT;
                place = tokens.first;
            }
        }

        /** Places come rising, so the first that is noted stays. */
        private void note(int fault, int at) {
            if (flaw == 0) {
                flaw = fault;
                place = at;
            }
        }

        private void lookForAll(int wide, int high) {
            if (farColumn >= wide || farRow >= high) {
                note(NOT_THERE, tokens.length);
            }
        }
    }

    /** Bit 8 * row + column of open is an OPEN STROKE; of thick and wear, 0 to 7 are RODS, 8 to 15 STAKES. */
    private static final class Basket {
        private static final long FIRST_COLUMN = 0x0101010101010101L;
        private static final long LAST_COLUMN = 0x8080808080808080L;
        static final int AT_FIRST = 6;
        private static final int THICK_AT_FIRST = 2;
        private static final int CORNERS = SIDE + 1;

        final int[] thick = new int[2 * SIDE];
        final int[] wear = new int[2 * SIDE];
        final int[] sums = new int[CORNERS * CORNERS];
        int wide = AT_FIRST;
        int high = AT_FIRST;
        boolean wet;
        long open;

        void begin() {
            wide = AT_FIRST;
            high = AT_FIRST;
            wet = false;
            open = 0;
            for (int i = 0; i < 2 * SIDE; i++) {
                thick[i] = THICK_AT_FIRST;
                wear[i] = 0;
            }
        }

        void take(Basket other) {
            wide = other.wide;
            high = other.high;
            wet = other.wet;
            open = other.open;
            System.arraycopy(other.thick, 0, thick, 0, 2 * SIDE);
            System.arraycopy(other.wear, 0, wear, 0, 2 * SIDE);
        }

        static long bit(int row, int column) {
            return 1L << (SIDE * row + column);
        }

        /** A rectangle with its upper left corner in a row and a column. */
        static long block(int row, int column, int width, int height) {
            long line = (1L << width) - 1;
            long all = 0;
            for (int i = 0; i < height; i++) {
                all |= line << (SIDE * i);
            }
            return all << (SIDE * row + column);
        }

        int rowOf(int stroke) {
            return wide > 0 ? stroke / wide : 0;
        }

        int columnOf(int stroke) {
            return wide > 0 ? stroke % wide : 0;
        }

        int strokeOf(int bitNumber) {
            return bitNumber / SIDE * wide + bitNumber % SIDE;
        }

        boolean hasStroke(int stroke) {
            return stroke >= 0 && stroke < wide * high;
        }

        boolean hasTwig(int side, int which) {
            return which >= 0 && which < (side == 0 ? high : wide);
        }

        void setTwig(int side, int which, int thickness, int worn) {
            int i = SIDE * side + which;
            if (i >= 0 && i < 2 * SIDE) {
                thick[i] = thickness;
                wear[i] = worn;
            }
        }

        boolean isOpen(int row, int column) {
            return (open & bit(row, column)) != 0;
        }

        /** STRENGTH in a row and a column; an OPEN STROKE has none. */
        private int strengthIn(int row, int column) {
            boolean there = row >= 0 && row < SIDE && column >= 0 && column < SIDE;
            if (!there || (open >>> (SIDE * row + column) & 1) != 0) {
                return 0;
            }
            int stake = SIDE + column;
            int whole = Math.max(0, thick[row] + thick[stake] - wear[row] - wear[stake]);
            return wet ? whole / 2 : whole;
        }

        int strengthOf(int stroke) {
            return strengthIn(rowOf(stroke), columnOf(stroke));
        }

        int strengthOfAll() {
            return strengthOfRectangle(0, wide, high);
        }

        int strengthOfRectangle(int place, int width, int height) {
            int top = rowOf(place);
            int left = columnOf(place);
            int sum = 0;
            for (int row = top; row < top + height; row++) {
                for (int column = left; column < left + width; column++) {
                    sum += strengthIn(row, column);
                }
            }
            return sum;
        }

        /** What basket() and state() both tell: of RODS, STAKES, STROKES. */
        int part(int what) {
            if (what >= 100) {
                int stroke = what - 100;
                if (!hasStroke(stroke)) {
                    return NO_SUCH;
                }
                return isOpen(rowOf(stroke), columnOf(stroke)) ? NONE : strengthOf(stroke);
            }
            if (what < 10 || what >= 50) {
                return NO_SUCH;
            }
            int which = what % 10;
            int side = what < 30 ? 0 : 1;
            if (!hasTwig(side, which) || which >= SIDE) {
                return NO_SUCH;
            }
            boolean tellsThick = what / 10 % 2 == 1;
            return tellsThick ? thick[SIDE * side + which] : wear[SIDE * side + which];
        }

        int gapFor(int width, int height) {
            return gapIn(open, width, height);
        }

        /** The place by which a size SLIPS when some RODS (bits) are out. */
        int gapWithout(int rods, int width, int height) {
            long opened = open;
            for (int row = 0; row < high; row++) {
                if ((rods >> row & 1) != 0) {
                    opened |= block(row, 0, wide, 1);
                }
            }
            return gapIn(opened, width, height);
        }

        private int gapIn(long opened, int width, int height) {
            long size = block(0, 0, width, height);
            for (int row = 0; row + height <= high; row++) {
                for (int column = 0; column + width <= wide; column++) {
                    long all = size << (SIDE * row + column);
                    if ((opened & all) == all) {
                        return wide * row + column;
                    }
                }
            }
            return NONE;
        }

        /** The first rectangle of a size whose STRENGTH is least. */
        int softest(int width, int height) {
            sumUp();
            int best = NONE;
            int least = 0;
            for (int row = 0; row + height <= high; row++) {
                for (int column = 0; column + width <= wide; column++) {
                    int is = sumTo(row + height, column + width) - sumTo(row + height, column)
                        - sumTo(row, column + width) + sumTo(row, column);
                    if (best == NONE || is < least) {
                        best = wide * row + column;
                        least = is;
                    }
                }
            }
            return best;
        }

        /** All rectangles of a size are looked at: from these sums each is told by its four corners. */
        private void sumUp() {
            for (int row = 0; row < high && row < SIDE; row++) {
                int line = 0;
                for (int column = 0; column < wide && column < SIDE; column++) {
                    line += strengthIn(row, column);
                    sums[CORNERS * (row + 1) + column + 1] = sumTo(row, column + 1) + line;
                }
            }
        }

        /** STRENGTHS of all STROKES above a row and left of a column, as sumUp() found them. */
        private int sumTo(int row, int column) {
            int at = CORNERS * row + column;
            return at >= 0 && at < sums.length ? sums[at] : 0;
        }

        /** HOLD of a size; NONE if it SLIPS, or is wider or higher. */
        int holdOf(int width, int height) {
            if (gapFor(width, height) != NONE) {
                return NONE;
            }
            int place = softest(width, height);
            return place == NONE ? NONE : strengthOfRectangle(place, width, height);
        }

        /** HOLD of a size if a ROD or a STAKE were thicker; NONE if it has none, or there is no such, or it is 9. */
        int holdIfThicker(int twig, int width, int height) {
            if (twig < 0 || twig >= 2 * SIDE || !hasTwig(twig / SIDE, twig % SIDE) || thick[twig] >= 9) {
                return NONE;
            }
            thick[twig]++;
            int is = holdOf(width, height);
            thick[twig]--;
            return is;
        }

        void openRectangle(int place, int width, int height) {
            open |= block(rowOf(place), columnOf(place), width, height);
        }

        /** The first rectangle of a size with the fewest STROKES that are not OPEN. */
        int likeliest(int width, int height) {
            int best = NONE;
            int fewest = 0;
            for (int row = 0; row + height <= high; row++) {
                for (int column = 0; column + width <= wide; column++) {
                    int place = wide * row + column;
                    int is = shutIn(place, width, height);
                    if (best == NONE || is < fewest) {
                        best = place;
                        fewest = is;
                    }
                }
            }
            return best;
        }

        int shutIn(int place, int width, int height) {
            return Long.bitCount(block(rowOf(place), columnOf(place), width, height) & ~open);
        }

        int holesOrLargest(boolean largest) {
            long rest = open;
            int parts = 0;
            int most = 0;
            for (int i = 0; i < STROKES && rest != 0; i++) {
                long part = joinedTo(rest & -rest);
                rest &= ~part;
                parts++;
                most = Math.max(most, Long.bitCount(part));
            }
            return largest ? most : parts;
        }

        private long joinedTo(long seed) {
            long part = seed;
            for (int i = 0; i < STROKES; i++) {
                long sideways = (part << 1 & ~FIRST_COLUMN) | (part >>> 1 & ~LAST_COLUMN);
                long next = (part | sideways | part << SIDE | part >>> SIDE) & open;
                if (next == part) {
                    break;
                }
                part = next;
            }
            return part;
        }

        int largestGap() {
            int most = 0;
            for (int width = 1; width <= wide; width++) {
                for (int height = 1; height <= high; height++) {
                    if (width * height > most && gapFor(width, height) != NONE) {
                        most = width * height;
                    }
                }
            }
            return most;
        }

        /** The RODS (bits) that are best mended: most WEAR first, of like ones the least. */
        int mendedFirst(int n) {
            int mended = 0;
            for (int i = 0; i < n; i++) {
                int worst = NONE;
                for (int row = 0; row < high && row < SIDE; row++) {
                    boolean whole = (mended >> row & 1) != 0 || wear[row] == 0;
                    if (!whole && (worst == NONE || wear[row] > wear[worst])) {
                        worst = row;
                    }
                }
                if (worst != NONE) {
                    mended |= 1 << worst;
                }
            }
            return mended;
        }

        /** Of allWays(), those in which no ROD breaks. */
        long soundWays(int mended) {
            long ways = 1;
            for (int row = 0; row < high && row < SIDE; row++) {
                ways *= (mended >> row & 1) != 0 ? 10 : 10 - wear[row];
            }
            return ways;
        }

        long allWays() {
            long ways = 1;
            for (int row = 0; row < high && row < SIDE; row++) {
                ways *= 10;
            }
            return ways;
        }

        int mirrors() {
            boolean leftRight = true;
            boolean topBottom = true;
            for (int row = 0; row < high; row++) {
                for (int column = 0; column < wide; column++) {
                    boolean is = isOpen(row, column);
                    leftRight &= is == isOpen(row, wide - 1 - column);
                    topBottom &= is == isOpen(high - 1 - row, column);
                }
            }
            return (leftRight ? 1 : 0) + (topBottom ? 2 : 0);
        }

        int crowdedRow() {
            int best = 0;
            for (int row = 1; row < high; row++) {
                if (openIn(block(row, 0, wide, 1)) > openIn(block(best, 0, wide, 1))) {
                    best = row;
                }
            }
            return best;
        }

        int crowdedColumn() {
            int best = 0;
            for (int column = 1; column < wide; column++) {
                if (openIn(block(0, column, 1, high)) > openIn(block(0, best, 1, high))) {
                    best = column;
                }
            }
            return best;
        }

        private int openIn(long strokes) {
            return Long.bitCount(open & strokes);
        }
    }

    /** The DEEDS of a YEAR, four numbers each: its kind, and its own. */
    private static final class Year {
        static final int DEED = 0;
        static final int MEND = 1;
        static final int GROW = 2;
        static final int WEAVE = 3;
        static final int WINTER = 4;
        static final int WET = 5;
        static final int DRY = 6;
        static final int DEEDS = 40;
        static final int PARTS = 4;

        final int[] row = new int[PARTS * DEEDS];
        int many;

        void add(int kind, int a, int b, int c) {
            if (many >= DEEDS) {
                return;
            }
            int at = PARTS * many;
            row[at] = kind;
            row[at + 1] = a;
            row[at + 2] = b;
            row[at + 3] = c;
            many++;
        }

        boolean has(int k) {
            return k >= 0 && k < many && k < DEEDS;
        }

        int part(int k, int what) {
            int at = PARTS * k + what;
            return at >= 0 && at < row.length ? row[at] : NONE;
        }

        void take(Year other) {
            System.arraycopy(other.row, 0, row, 0, PARTS * DEEDS);
            many = other.many;
        }
    }

    /** A BASKET as a YEAR, or a SEED, makes it. */
    private static final class Season {
        static final int DRAWS = 60;

        final Basket basket = new Basket();
        int slipped;
        int broken;
        int held;
        int x;

        void begin(Basket told) {
            basket.take(told);
            slipped = 0;
            broken = 0;
            held = 0;
        }

        /** Lets the first n DEEDS be, up to one that can't be: how many were. */
        int pass(Basket told, Year year, int n) {
            begin(told);
            int done = 0;
            while (done < n && happens(year, done)) {
                done++;
            }
            return done;
        }

        /** False, and nothing changes, if the DEED can't be. */
        boolean happens(Year year, int k) {
            if (!year.has(k)) {
                return false;
            }
            int a = year.part(k, 1);
            int b = year.part(k, 2);
            switch (year.part(k, 0)) {
                case Year.DEED:
                    strike(a, b, year.part(k, 3));
                    return true;
                case Year.MEND:
                    return mend(a, b);
                case Year.GROW:
                    return grow(a, b);
                case Year.WEAVE:
                    return weave(a, b);
                case Year.WINTER:
                    winter();
                    return true;
                case Year.WET:
                    return turn(true);
                default:
                    return turn(false);
            }
        }

        private void strike(int width, int height, int force) {
            if (basket.gapFor(width, height) != NONE) {
                slipped++;
                return;
            }
            int place = basket.softest(width, height);
            if (place != NONE && force > basket.strengthOfRectangle(place, width, height)) {
                basket.openRectangle(place, width, height);
                broken++;
            } else {
                held++;
            }
        }

        private boolean mend(int side, int which) {
            if (!basket.hasTwig(side, which)) {
                return false;
            }
            int twig = SIDE * side + which;
            basket.setTwig(side, which, basket.thick[twig], 0);
            return true;
        }

        private boolean grow(int side, int which) {
            if (!basket.hasTwig(side, which)) {
                return false;
            }
            int twig = SIDE * side + which;
            if (basket.thick[twig] >= 9) {
                return false;
            }
            basket.setTwig(side, which, basket.thick[twig] + 1, basket.wear[twig]);
            return true;
        }

        private boolean weave(int column, int row) {
            boolean there = column >= 0 && column < basket.wide && row >= 0 && row < basket.high;
            if (!there || !basket.isOpen(row, column)) {
                return false;
            }
            basket.open &= ~Basket.bit(row, column);
            return true;
        }

        private void winter() {
            for (int i = 0; i < 2 * SIDE; i++) {
                basket.wear[i] = Math.min(9, basket.wear[i] + 1);
            }
        }

        private boolean turn(boolean wet) {
            if (basket.wet == wet) {
                return false;
            }
            basket.wet = wet;
            return true;
        }

        void draw(Basket told, int seed, int n) {
            begin(told);
            x = seed;
            for (int i = 0; i < n; i++) {
                drawDeed(drawBelow(8));
            }
        }

        private void drawDeed(int lot) {
            switch (lot) {
                case 3:
                    mend(0, drawBelow(basket.high));
                    break;
                case 4:
                    grow(1, drawBelow(basket.wide));
                    break;
                case 5:
                    drawWeave();
                    break;
                case 6:
                    winter();
                    break;
                case 7:
                    turn(!basket.wet);
                    break;
                default:
                    int width = drawBelow(4) + 1;
                    int height = drawBelow(4) + 1;
                    strike(width, height, drawBelow(40));
                    break;
            }
        }

        private void drawWeave() {
            int stroke = drawBelow(basket.wide * basket.high);
            weave(basket.columnOf(stroke), basket.rowOf(stroke));
        }

        private int drawBelow(int n) {
            x = x * 1103515245 + 12345;
            return n > 0 ? (x >>> 16) % n : 0;
        }

        /** What state() and drawn() tell. */
        int part(int what) {
            switch (what) {
                case 0:
                    return slipped;
                case 1:
                    return broken;
                case 2:
                    return held;
                case 3:
                    return Long.bitCount(basket.open);
                case 4:
                    return basket.wet ? 1 : 0;
                case 5:
                    return basket.strengthOfAll();
                default:
                    return basket.part(what);
            }
        }
    }

    /** Rows for what goes from STROKE to STROKE: which are closed, which way a frog goes. */
    private static final class Strokes {
        static final int CLOSED = 3;
        private static final int FORCE = 128;

        final long[] gap = new long[STROKES];
        final int[] closed = new int[CLOSED];
        /** Of each STROKE the best way there: less FORCE goes first, then fewer STROKES. */
        final int[] key = new int[STROKES];
        int many;

        /** How many are closed so that a size does not SLIP, NONE if not by three; closed has their bits. */
        int fewestClosed(Basket basket, int width, int height) {
            findGaps(basket, width, height);
            if (many == 0) {
                return 0;
            }
            int one = leastInAll(0);
            if (one != NONE) {
                closed[0] = one;
                return 1;
            }
            if (closeTwo()) {
                return 2;
            }
            return closeThree() ? 3 : NONE;
        }

        private void findGaps(Basket basket, int width, int height) {
            many = 0;
            for (int row = 0; row + height <= basket.high; row++) {
                for (int column = 0; column + width <= basket.wide; column++) {
                    long all = Basket.block(row, column, width, height);
                    if ((basket.open & all) == all && many < STROKES) {
                        gap[many] = all;
                        many++;
                    }
                }
            }
        }

        /** The least STROKE that is in all gaps but those that are shut by some STROKES already. */
        private int leastInAll(long shutting) {
            long all = -1L;
            for (int i = 0; i < many && i < STROKES && all != 0; i++) {
                if ((gap[i] & shutting) == 0) {
                    all &= gap[i];
                }
            }
            return all == 0 ? NONE : Long.numberOfTrailingZeros(all);
        }

        /** The first a that has a fellow has a greater one: a lesser one would have had a for its own. */
        private boolean closeTwo() {
            for (int a = 0; a < STROKES; a++) {
                int b = leastInAll(1L << a);
                if (b != NONE) {
                    closed[0] = a;
                    closed[1] = b;
                    return true;
                }
            }
            return false;
        }

        private boolean closeThree() {
            for (int a = 0; a < STROKES; a++) {
                for (int b = a + 1; b < STROKES; b++) {
                    int c = leastInAll(1L << a | 1L << b);
                    if (c != NONE) {
                        closed[0] = a;
                        closed[1] = b;
                        closed[2] = c;
                        return true;
                    }
                }
            }
            return false;
        }

        static int forceOf(int key) {
            return key / FORCE;
        }

        static int stepsOf(int key) {
            return key % FORCE;
        }

        private static int costOf(Basket basket, int stroke) {
            return basket.strengthOf(stroke) * FORCE + 1;
        }

        void spread(Basket basket, int from) {
            int strokes = Math.min(basket.wide * basket.high, STROKES);
            for (int i = 0; i < strokes; i++) {
                key[i] = FAR;
            }
            if (from < 0 || from >= strokes) {
                return;
            }
            key[from] = costOf(basket, from);
            boolean better = true;
            for (int round = 0; round < STROKES && better; round++) {
                better = false;
                for (int i = 0; i < strokes; i++) {
                    better |= lower(basket, i);
                }
            }
        }

        private boolean lower(Basket basket, int stroke) {
            int row = basket.rowOf(stroke);
            int column = basket.columnOf(stroke);
            int before = FAR;
            if (row > 0) {
                before = Math.min(before, keyAt(stroke - basket.wide));
            }
            if (row + 1 < basket.high) {
                before = Math.min(before, keyAt(stroke + basket.wide));
            }
            if (column > 0) {
                before = Math.min(before, keyAt(stroke - 1));
            }
            if (column + 1 < basket.wide) {
                before = Math.min(before, keyAt(stroke + 1));
            }
            int is = before + costOf(basket, stroke);
            if (is >= keyAt(stroke)) {
                return false;
            }
            key[stroke] = is;
            return true;
        }

        private int keyAt(int stroke) {
            return stroke >= 0 && stroke < STROKES ? key[stroke] : 0;
        }

        int toTheRim(Basket basket) {
            int least = FAR;
            for (int row = 0; row < basket.high; row++) {
                for (int column = 0; column < basket.wide; column++) {
                    boolean rim = row == 0 || column == 0 || row == basket.high - 1 || column == basket.wide - 1;
                    if (rim) {
                        least = Math.min(least, keyAt(basket.wide * row + column));
                    }
                }
            }
            return least;
        }
    }

    /** RODS, PIECES and CUT of a PARISH, and its game. */
    private static final class Parish {
        static final int RODS = 6;
        static final int PIECES = 8;
        static final int LONGEST = 60;
        private static final int CUT_AT_FIRST = 3;

        final int[] rod = new int[RODS];
        final int[] piece = new int[PIECES];
        int rods;
        int pieces;
        int cut = CUT_AT_FIRST;

        void begin() {
            rods = 0;
            pieces = 0;
            cut = CUT_AT_FIRST;
        }

        void take(Parish other) {
            System.arraycopy(other.rod, 0, rod, 0, RODS);
            System.arraycopy(other.piece, 0, piece, 0, PIECES);
            rods = other.rods;
            pieces = other.pieces;
            cut = other.cut;
        }

        void addRod(int length) {
            if (rods < RODS) {
                rod[rods] = length;
                rods++;
            }
        }

        void addPiece(int length) {
            if (pieces < PIECES) {
                piece[pieces] = length;
                pieces++;
            }
        }

        int part(int what) {
            if (what == 0) {
                return rods;
            }
            if (what == 1) {
                return pieces;
            }
            if (what == 2) {
                return cut;
            }
            if (what >= 10 && what < 10 + rods) {
                return rod[what - 10];
            }
            return what >= 20 && what < 20 + pieces ? piece[what - 20] : NONE;
        }

        /**
         * Whether the one whose turn it is wins when so much is off a ROD. A ROD counts like a heap of nim, its
         * LENGTH's remainder by CUT and one; who must not cut last plays alike till only heaps of one are left.
         */
        boolean wins(int shorter, int off, boolean losing) {
            int together = 0;
            boolean high = false;
            for (int i = 0; i < rods && i < RODS; i++) {
                int length = i == shorter ? rod[i] - off : rod[i];
                int heap = cut > 0 ? length % (cut + 1) : 0;
                together ^= heap;
                high |= heap > 1;
            }
            return losing && !high ? together == 0 : together != 0;
        }

        int winningCut(boolean losing) {
            for (int i = 0; i < rods && i < RODS; i++) {
                for (int off = 1; off <= cut && off <= rod[i]; off++) {
                    if (!wins(i, off, losing)) {
                        return 10 * i + off;
                    }
                }
            }
            return NONE;
        }
    }

    /** How RODS are cut and divided. */
    private static final class Saw {
        static final int HEIRS = 4;
        private static final int SETS = 1 << Parish.PIECES;

        final int[] left = new int[Parish.RODS];
        final int[] price = new int[Parish.RODS];
        final int[] weight = new int[SETS];
        final int[] least = new int[SETS];
        final int[] heir = new int[Parish.RODS];
        final int[] share = new int[HEIRS];
        int most;

        private void wholeRods(Parish parish, boolean byLength) {
            for (int i = 0; i < parish.rods && i < Parish.RODS; i++) {
                left[i] = parish.rod[i];
                price[i] = byLength ? parish.rod[i] : 1;
            }
        }

        int fewest(Parish parish) {
            wholeRods(parish, false);
            int is = pack(parish, 0);
            return is >= FAR ? NONE : is;
        }

        int spare(Parish parish) {
            wholeRods(parish, true);
            int is = pack(parish, 0);
            return is >= FAR ? NONE : is - weight[allFrom(parish, 0)];
        }

        int longest(Parish parish) {
            wholeRods(parish, false);
            pack(parish, 0);
            int longest = 0;
            for (int set = 0; set <= allFrom(parish, 0); set++) {
                if (least[set] < FAR) {
                    longest = Math.max(longest, Integer.bitCount(set));
                }
            }
            return longest;
        }

        /** Gives each PIECE in turn the least ROD by which the others still need no more RODS than the fewest. */
        int rodOf(Parish parish, int k) {
            int fewest = fewest(parish);
            if (fewest == NONE) {
                return NONE;
            }
            int chosen = NONE;
            int cutRods = 0;
            for (int i = 0; i <= k && i < Parish.PIECES; i++) {
                chosen = firstRodFor(parish, i, fewest - cutRods);
                if (chosen == NONE) {
                    return NONE;
                }
                cutRods += price[chosen];
                cutOff(chosen, parish.piece[i], 0);
            }
            return chosen;
        }

        private int firstRodFor(Parish parish, int i, int mayCut) {
            for (int r = 0; r < parish.rods && r < Parish.RODS; r++) {
                int length = parish.piece[i];
                int before = price[r];
                if (length <= left[r] && before <= mayCut) {
                    cutOff(r, length, 0);
                    int others = pack(parish, i + 1);
                    cutOff(r, -length, before);
                    if (before + others <= mayCut) {
                        return r;
                    }
                }
            }
            return NONE;
        }

        private void cutOff(int r, int length, int priceNow) {
            if (r >= 0 && r < Parish.RODS) {
                left[r] -= length;
                price[r] = priceNow;
            }
        }

        private static int allFrom(Parish parish, int from) {
            int n = Math.max(0, Math.min(parish.pieces, Parish.PIECES) - from);
            return (1 << n) - 1;
        }

        /** The least price of all RODS of which the PIECES from one on are cut, FAR if they can't be; least has it of every set of them. */
        private int pack(Parish parish, int from) {
            int all = allFrom(parish, from);
            weight[0] = 0;
            least[0] = 0;
            for (int set = 1; set <= all && set < SETS; set++) {
                int i = from + Integer.numberOfTrailingZeros(set);
                weight[set] = weight[set & (set - 1)] + (i < Parish.PIECES ? parish.piece[i] : 0);
                least[set] = FAR;
            }
            for (int r = 0; r < parish.rods && r < Parish.RODS; r++) {
                packInto(r, all);
            }
            return all < SETS ? least[all] : FAR;
        }

        /** Greater sets go first, so that what is left of a set has not had this ROD yet. */
        private void packInto(int r, int all) {
            for (int set = all; set > 0; set--) {
                for (int part = set; part > 0; part = (part - 1) & set) {
                    if (weight[part] <= left[r]) {
                        least[set] = Math.min(least[set], least[set ^ part] + price[r]);
                    }
                }
            }
        }

        /** The first row by numbers of those who have the RODS, by which the one with most has least. */
        void divide(Parish parish, int n) {
            int rows = 1;
            // Who has ROD 0 can always be the first one: rows that begin otherwise are none the better, and later.
            for (int i = 1; i < parish.rods && i < Parish.RODS; i++) {
                rows *= n;
            }
            int best = 0;
            most = FAR;
            for (int row = 0; row < rows; row++) {
                int is = mostOf(parish, n, row);
                if (is < most) {
                    most = is;
                    best = row;
                }
            }
            mostOf(parish, n, best);
        }

        /** A row is a number whose last digit, by n, tells who has the last ROD; heir has the digits then. */
        private int mostOf(Parish parish, int n, int row) {
            for (int i = 0; i < HEIRS; i++) {
                share[i] = 0;
            }
            int greatest = 0;
            int rest = row;
            for (int i = Math.min(parish.rods, Parish.RODS) - 1; i >= 0; i--) {
                int who = n > 0 ? rest % n : 0;
                rest = n > 0 ? rest / n : 0;
                heir[i] = who;
                if (who >= 0 && who < HEIRS) {
                    share[who] += parish.rod[i];
                    greatest = Math.max(greatest, share[who]);
                }
            }
            return greatest;
        }
    }

    /** CLUES of a BASKET with one GAP, three numbers each: the kind, and its own. */
    private static final class Clues {
        static final int OPEN = 0;
        static final int SHUT = 1;
        static final int SLIPS = 2;
        static final int HELD = 3;
        static final int MOST = 10;
        private static final int PARTS = 3;

        final int[] row = new int[PARTS * MOST];
        int wide = Basket.AT_FIRST;
        int high = Basket.AT_FIRST;
        int many;

        void begin() {
            wide = Basket.AT_FIRST;
            high = Basket.AT_FIRST;
            many = 0;
        }

        void take(Clues other) {
            System.arraycopy(other.row, 0, row, 0, PARTS * MOST);
            wide = other.wide;
            high = other.high;
            many = other.many;
        }

        void add(int kind, int a, int b) {
            if (many >= MOST) {
                return;
            }
            int at = PARTS * many;
            row[at] = kind;
            row[at + 1] = a;
            row[at + 2] = b;
            many++;
        }

        int part(int what) {
            if (what == 0) {
                return wide;
            }
            if (what == 1) {
                return high;
            }
            if (what == 2) {
                return many;
            }
            int k = what % 10;
            boolean there = what >= 10 && what < 40 && k < many;
            return there ? row[PARTS * k + what / 10 - 1] : NONE;
        }

        /** A CLUE of a kind, by whether the GAP has its STROKE, lets its size through. */
        private static boolean agrees(int kind, boolean has, boolean lets) {
            switch (kind) {
                case OPEN:
                    return has;
                case SHUT:
                    return !has;
                case SLIPS:
                    return lets;
                default:
                    return !lets;
            }
        }

        /** Whether a GAP goes with all CLUES. */
        boolean allow(int top, int left, int width, int height) {
            for (int at = 0; at < PARTS * many && at + 2 < row.length; at += PARTS) {
                int a = row[at + 1];
                int b = row[at + 2];
                boolean has = a >= left && a < left + width && b >= top && b < top + height;
                boolean lets = a <= width && b <= height;
                if (!agrees(row[at], has, lets)) {
                    return false;
                }
            }
            return true;
        }
    }

    /** The GAPS that FIT, by their numbers. */
    private static final class Search {
        final int[] openIn = new int[STROKES];
        int fit;
        int wanted;
        int found;
        boolean tallies;

        int howMany(Clues clues) {
            look(clues, NONE, false);
            return fit;
        }

        int gapAt(Clues clues, int k) {
            look(clues, k, false);
            return found == NONE ? NO_SUCH : found;
        }

        int sureOf(Clues clues, int stroke) {
            look(clues, NONE, true);
            if (fit == 0 || stroke < 0 || stroke >= STROKES) {
                return NONE;
            }
            if (openIn[stroke] == fit) {
                return 1;
            }
            return openIn[stroke] == 0 ? 0 : NONE;
        }

        int bestAsked(Clues clues) {
            look(clues, NONE, true);
            int best = NONE;
            int least = 0;
            int strokes = fit == 0 ? 0 : clues.wide * clues.high;
            for (int i = 0; i < strokes && i < STROKES; i++) {
                int greater = Math.max(openIn[i], fit - openIn[i]);
                if (best == NONE || greater < least) {
                    best = i;
                    least = greater;
                }
            }
            return best;
        }

        /** Goes through all rectangles by their numbers: counts those that FIT, finds the k-th, and of each STROKE in how many it is OPEN. */
        private void look(Clues clues, int k, boolean byStrokes) {
            fit = 0;
            wanted = k;
            found = NONE;
            tallies = byStrokes;
            for (int i = 0; i < STROKES; i++) {
                openIn[i] = 0;
            }
            for (int height = 1; height <= clues.high; height++) {
                for (int width = 1; width <= clues.wide; width++) {
                    lookAtSize(clues, width, height);
                }
            }
        }

        private void lookAtSize(Clues clues, int width, int height) {
            for (int top = 0; top + height <= clues.high; top++) {
                for (int left = 0; left + width <= clues.wide; left++) {
                    if (clues.allow(top, left, width, height)) {
                        int corner = clues.wide * top + left;
                        if (fit == wanted) {
                            found = 512 * (height - 1) + 64 * (width - 1) + corner;
                        }
                        fit++;
                        if (tallies) {
                            tally(clues.wide, corner, width, height);
                        }
                    }
                }
            }
        }

        private void tally(int wide, int corner, int width, int height) {
            for (int row = 0; row < height; row++) {
                for (int column = 0; column < width; column++) {
                    int stroke = corner + wide * row + column;
                    if (stroke >= 0 && stroke < STROKES) {
                        openIn[stroke]++;
                    }
                }
            }
        }
    }
}
