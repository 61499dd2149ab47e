import java.util.Random;

/** Random texts and questions, held against Naive: promises 2 to 31. */
public final class OracleTest {
    private static final Due DUE = new Due("OracleTest");
    private static Random random;

    private static int below(int n) {
        return random.nextInt(n);
    }

    /** A number that mostly can be, and at times can't. */
    private static String number(int low, int high) {
        int lot = below(150);
        if (lot == 0) {
            return "" + (high + 1);
        }
        if (lot == 1) {
            return "" + Math.max(0, low - 1);
        }
        int is = low + below(high - low + 1);
        return lot == 2 && is < 10 ? "0" + is : "" + is;
    }

    private static String basketText() {
        StringBuilder t = new StringBuilder();
        int wide = 2 + below(below(2) == 0 ? 3 : 7);
        int high = 2 + below(below(2) == 0 ? 3 : 7);
        boolean told = below(8) != 0;
        if (told) {
            t.append("size ").append(wide).append(' ').append(high).append(';');
        } else {
            wide = 6;
            high = 6;
        }
        int opens = below(4) == 0 ? below(40) : below(wide * high);
        for (int i = 0; i < opens && t.length() < 400; i++) {
            t.append("open ").append(number(0, wide - 1)).append(' ').append(number(0, high - 1)).append(';');
        }
        int twigs = below(8);
        for (int i = 0; i < twigs; i++) {
            boolean rod = below(2) == 0;
            t.append(rod ? "rod " : "stake ").append(number(0, (rod ? high : wide) - 1)).append(' ');
            t.append(number(0, 9)).append(' ').append(number(0, below(2) == 0 ? 9 : 3)).append(';');
        }
        return t.append(below(4) == 0 ? "wet;" : "").toString();
    }

    private static String yearText() {
        StringBuilder t = new StringBuilder();
        int n = below(6) == 0 ? 42 : below(20);
        String[] short_ = {"winter;", "wet;", "dry;"};
        for (int i = 0; i < n && t.length() < 560; i++) {
            switch (below(8)) {
                case 0, 1, 2 -> t.append("deed ").append(number(1, 4)).append(' ').append(number(1, 4))
                    .append(' ').append(number(0, below(2) == 0 ? 9 : 60)).append(';');
                case 3 -> t.append("mend ").append(below(2) == 0 ? "rod " : "stake ").append(number(0, 3)).append(';');
                case 4 -> t.append("grow ").append(below(2) == 0 ? "rod " : "stake ").append(number(0, 3)).append(';');
                case 5 -> t.append("weave ").append(number(0, 3)).append(' ').append(number(0, 3)).append(';');
                default -> t.append(short_[below(3)]);
            }
        }
        return t.toString();
    }

    private static String parishText() {
        StringBuilder t = new StringBuilder();
        int longest = below(3) == 0 ? 60 : 12;
        int rods = below(40) == 0 ? 7 : below(5);
        int pieces = below(40) == 0 ? 9 : below(6);
        for (int i = 0; i < rods; i++) {
            t.append("rod ").append(number(1, rods > 3 ? Math.min(longest, 20) : longest)).append(';');
        }
        for (int i = 0; i < pieces; i++) {
            t.append("need ").append(number(1, below(4) == 0 ? longest : longest / 2)).append(';');
        }
        return t.append(below(2) == 0 ? "cut " + number(1, 9) + ";" : "").toString();
    }

    private static String cluesText() {
        StringBuilder t = new StringBuilder();
        int wide = 2 + below(7);
        int high = 2 + below(7);
        if (below(6) == 0) {
            wide = 6;
            high = 6;
        } else {
            t.append("size ").append(wide).append(' ').append(high).append(';');
        }
        int n = below(30) == 0 ? 11 : below(5);
        for (int i = 0; i < n; i++) {
            switch (below(5)) {
                case 0 -> t.append("open ").append(number(0, wide - 1)).append(' ').append(number(0, high - 1));
                case 1, 2 -> t.append("shut ").append(number(0, wide - 1)).append(' ').append(number(0, high - 1));
                case 3 -> t.append("slips ").append(number(1, 3)).append(' ').append(number(1, 3));
                default -> t.append("held ").append(number(1, 8)).append(' ').append(number(1, 8));
            }
            t.append(';');
        }
        return t.toString();
    }

    /** Spoils a text at times, so that FAULT 1 comes in all its places. */
    private static String spoilt(String text) {
        StringBuilder t = new StringBuilder(text);
        String signs = " \n;;0129azrodwet%\u00e9-";
        int times = below(10) == 0 ? 1 + below(2) : 0;
        for (int i = 0; i < times && t.length() > 0; i++) {
            int at = below(t.length());
            switch (below(4)) {
                case 0 -> t.deleteCharAt(at);
                case 1 -> t.insert(at, signs.charAt(below(signs.length())));
                case 2 -> t.setCharAt(at, signs.charAt(below(signs.length())));
                default -> t.setLength(at);
            }
        }
        return t.length() > 600 ? t.substring(0, 600) : t.toString();
    }

    private static void tellSome(WillowLaw x, Naive y) {
        for (int i = 0; i < 12; i++) {
            int sort = i < 8 ? i % 4 : below(6) - 1;
            int at = i < 8 ? -1 : below(4) - 1;
            int like = sort < 0 || sort > 3 ? below(4) : sort;
            String text = spoilt(like == 0 ? basketText() : like == 1 ? yearText() : like == 2 ? parishText() : cluesText());
            DUE.is("text(" + sort + ", " + at + ") of " + text, Due.text(x, sort, at, text), y.text(sort, at, text));
            DUE.is("fault(0) of " + text, x.fault(0), y.fault);
            DUE.is("fault(1) of " + text, x.fault(1), y.place);
        }
        for (int sort = -1; sort <= 4; sort++) {
            DUE.is("count(" + sort + ")", x.count(sort), y.count(sort));
        }
    }

    private static int which() {
        return below(12) == 0 ? below(5) - 2 : below(2);
    }

    private static int side() {
        return below(20) == 0 ? below(12) - 1 : 1 + below(below(2) == 0 ? 3 : 8);
    }

    private static int part() {
        switch (below(5)) {
            case 0:
                return below(8) - 1;
            case 1:
                return 8 + below(44);
            case 2:
                return 10 * (1 + below(4)) + below(6);
            default:
                return 100 + below(66);
        }
    }

    private static void askBasket(WillowLaw x, Naive y) {
        int b = which();
        int w = side();
        int h = side();
        boolean f = below(2) == 0;
        String of = b + ", " + w + ", " + h + ", " + f;
        int what = part();
        DUE.is("basket " + b + " " + what, x.basket(b, what), y.basket(b, what));
        DUE.is("slips " + of, x.slips(b, w, h, f), y.slips(b, w, h, f));
        DUE.is("opens " + of, x.opens(b, w, h, f), y.opens(b, w, h, f));
        int k = below(6) - 2;
        if (y.b(b) == null || y.b(b).opens() <= 16) {
            DUE.is("closes " + of + " " + k, x.closes(b, w, h, k), y.closes(b, w, h, k));
        }
        int w2 = side();
        int h2 = side();
        DUE.is("sieve " + of + " " + w2 + " " + h2, x.sieve(b, w, h, w2, h2), y.sieve(b, w, h, w2, h2));
        int s = below(68) - 2;
        int to = below(50) - 1;
        DUE.is("escape " + b + " " + s + " " + f, x.escape(b, s, f), y.escape(b, s, f));
        DUE.is("tunnel " + b + " " + s + " " + to, x.tunnel(b, s, to), y.tunnel(b, s, to));
        int few = below(5) - 1;
        DUE.is("holes " + b + " " + few, x.holes(b, few), y.holes(b, few));
        int n = below(11) - 1;
        DUE.is("last " + b + " " + n + " " + few, x.last(b, n, few), y.last(b, n, few));
        int o = which();
        DUE.is("unlike " + b + " " + o + " " + f, x.unlike(b, o, f), y.unlike(b, o, f));
        DUE.is("stout " + of, x.stout(b, w, h, f), y.stout(b, w, h, f));
        int m = below(4) == 0 ? below(68) - 1 : w * h;
        DUE.is("soft " + b + " " + m + " " + f, x.soft(b, m, f), y.soft(b, m, f));
        DUE.is("mirrored " + b + " " + few, x.mirrored(b, few), y.mirrored(b, few));
    }

    private static void askYear(WillowLaw x, Naive y) {
        int b = which();
        int j = which();
        int k = below(44) - 2;
        int few = below(6) - 1;
        DUE.is("deed " + j + " " + k + " " + few, x.deed(j, k, few), y.deed(j, k, few));
        DUE.is("deed " + j + " NONE 0", x.deed(j, -1, 0), y.deed(j, -1, 0));
        DUE.is("till " + b + " " + j, x.till(b, j), y.till(b, j));
        int end = y.till(b, j);
        int n = below(end + 3) - 1;
        for (int i = 0; i < 4; i++) {
            int what = part();
            DUE.is("state " + b + " " + j + " " + n + " " + what, x.state(b, j, n, what), y.state(b, j, n, what));
        }
        int w = side();
        int h = side();
        DUE.is("precedent " + b + " " + j + " " + w + " " + h, x.precedent(b, j, w, h), y.precedent(b, j, w, h));
        int seed = random.nextInt();
        int times = below(64) - 1;
        for (int i = 0; i < 3; i++) {
            int what = part();
            String call = "drawn " + b + " " + seed + " " + times + " " + what;
            DUE.is(call, x.drawn(b, seed, times, what), y.drawn(b, seed, times, what));
        }
    }

    private static void askParish(WillowLaw x, Naive y) {
        int p = which();
        boolean f = below(2) == 0;
        int what = below(32) - 1;
        DUE.is("parish " + p + " " + what, x.parish(p, what), y.parish(p, what));
        int k = below(9) - 4;
        DUE.is("cutting " + p + " " + k, x.cutting(p, k), y.cutting(p, k));
        DUE.is("kept " + p, x.kept(p), y.kept(p));
        boolean last = below(2) == 0;
        DUE.is("game " + p + " " + last + " " + f, x.game(p, last, f), y.game(p, last, f));
        int n = below(6);
        int rod = below(7) - 2;
        DUE.is("divided " + p + " " + n + " " + rod, x.divided(p, n, rod), y.divided(p, n, rod));
    }

    private static void askClues(WillowLaw x, Naive y) {
        int c = which();
        int what = below(44) - 2;
        DUE.is("clues " + c + " " + what, x.clues(c, what), y.clues(c, what));
        int all = Math.max(0, y.gaps(c, 0));
        int[] asks = {0, 1, below(4) - 1, 99 + below(67), 1000 + below(all + 2), 999};
        int ask = asks[below(asks.length)];
        DUE.is("gaps " + c + " " + ask, x.gaps(c, ask), y.gaps(c, ask));
    }

    public static void main(String[] args) {
        int runs = args.length > 0 ? Integer.parseInt(args[0]) : 1500;
        int from = args.length > 1 ? Integer.parseInt(args[1]) : 0;
        for (int run = from; run < from + runs; run++) {
            random = new Random(run);
            WillowLaw x = new WillowLaw();
            Naive y = new Naive();
            tellSome(x, y);
            for (int i = 0; i < 8; i++) {
                askBasket(x, y);
                askYear(x, y);
                askParish(x, y);
                askClues(x, y);
            }
        }
        DUE.finish();
    }
}
