import java.math.BigInteger;
import java.util.ArrayList;
import java.util.Arrays;
import java.util.HashMap;
import java.util.List;
import java.util.Map;
import java.util.PriorityQueue;

/** The document once more, as slow and as plain as can be: what the class is held against in OracleTest. */
final class Naive {
    static final String[][] LINES = {
        {"size N N ;", "open N N ;", "rod N N N ;", "stake N N N ;", "wet ;"},
        {"deed N N N ;", "mend S N ;", "grow S N ;", "weave N N ;", "winter ;", "wet ;", "dry ;"},
        {"rod N ;", "need N ;", "cut N ;"},
        {"size N N ;", "open N N ;", "shut N N ;", "slips N N ;", "held N N ;"}};

    static final class B {
        int wide = 6;
        int high = 6;
        boolean wet;
        boolean[][] open = new boolean[8][8];
        int[][] thick = new int[2][8];
        int[][] wear = new int[2][8];

        B() {
            Arrays.fill(thick[0], 2);
            Arrays.fill(thick[1], 2);
        }

        B copy() {
            B b = new B();
            b.wide = wide;
            b.high = high;
            b.wet = wet;
            for (int i = 0; i < 8; i++) {
                b.open[i] = open[i].clone();
            }
            for (int i = 0; i < 2; i++) {
                b.thick[i] = thick[i].clone();
                b.wear[i] = wear[i].clone();
            }
            return b;
        }

        int strength(int row, int column) {
            int s = thick[0][row] + thick[1][column] - wear[0][row] - wear[1][column];
            s = s < 0 ? 0 : s;
            return open[row][column] ? 0 : wet ? s / 2 : s;
        }

        boolean allOpen(int row, int column, int w, int h) {
            for (int r = row; r < row + h; r++) {
                for (int c = column; c < column + w; c++) {
                    if (!open[r][c]) {
                        return false;
                    }
                }
            }
            return true;
        }

        int slips(int w, int h) {
            for (int s = 0; s < wide * high; s++) {
                int r = s / wide;
                int c = s % wide;
                if (r + h <= high && c + w <= wide && allOpen(r, c, w, h)) {
                    return s;
                }
            }
            return -1;
        }

        int sum(int s, int w, int h) {
            int sum = 0;
            for (int r = s / wide; r < s / wide + h; r++) {
                for (int c = s % wide; c < s % wide + w; c++) {
                    sum += strength(r, c);
                }
            }
            return sum;
        }

        int softest(int w, int h) {
            int best = -1;
            for (int s = 0; s < wide * high; s++) {
                if (s / wide + h <= high && s % wide + w <= wide
                        && (best == -1 || sum(s, w, h) < sum(best, w, h))) {
                    best = s;
                }
            }
            return best;
        }

        int hold(int w, int h) {
            int s = slips(w, h) >= 0 ? -1 : softest(w, h);
            return s < 0 ? -1 : sum(s, w, h);
        }

        int opens() {
            int n = 0;
            for (boolean[] row : open) {
                for (boolean is : row) {
                    n += is ? 1 : 0;
                }
            }
            return n;
        }

        int part(int what) {
            for (int i = 0; i < 8; i++) {
                if (i < high && what == 10 + i) {
                    return thick[0][i];
                }
                if (i < high && what == 20 + i) {
                    return wear[0][i];
                }
                if (i < wide && what == 30 + i) {
                    return thick[1][i];
                }
                if (i < wide && what == 40 + i) {
                    return wear[1][i];
                }
            }
            for (int s = 0; s < wide * high; s++) {
                if (what == 100 + s) {
                    return open[s / wide][s % wide] ? -1 : strength(s / wide, s % wide);
                }
            }
            return -2;
        }
    }

    static final class P {
        List<Integer> rods = new ArrayList<>();
        List<Integer> pieces = new ArrayList<>();
        int cut = 3;
    }

    static final class C {
        int wide = 6;
        int high = 6;
        List<int[]> clues = new ArrayList<>();
    }

    final List<List<Object>> told = List.of(new ArrayList<>(), new ArrayList<>(), new ArrayList<>(), new ArrayList<>());
    int fault = 0;
    int place = -1;

    record Token(char kind, String text, int place) { }

    static List<Token> tokens(String text) {
        List<Token> all = new ArrayList<>();
        int i = 0;
        while (i < text.length()) {
            int j = i + 1;
            char c = text.charAt(i);
            if (c >= 'a' && c <= 'z') {
                while (j < text.length() && text.charAt(j) >= 'a' && text.charAt(j) <= 'z') {
                    j++;
                }
                all.add(new Token('w', text.substring(i, j), i));
            } else if (c >= '0' && c <= '9') {
                while (j < text.length() && text.charAt(j) >= '0' && text.charAt(j) <= '9') {
                    j++;
                }
                all.add(new Token(j - i > 2 ? '?' : 'N', text.substring(i, j), i));
            } else if (c == ';') {
                all.add(new Token(';', ";", i));
            } else if (c != ' ' && c != '\n') {
                all.add(new Token('?', "", i));
            }
            i = j;
        }
        all.add(new Token('$', "", text.length()));
        return all;
    }

    static boolean matches(String want, Token t) {
        switch (want) {
            case "N":
                return t.kind == 'N';
            case ";":
                return t.kind == ';';
            case "S":
                return t.text.equals("rod") || t.text.equals("stake");
            default:
                return t.text.equals(want);
        }
    }

    private List<List<Token>> lines(int sort, String text) {
        List<List<Token>> lines = new ArrayList<>();
        List<Token> line = new ArrayList<>();
        for (Token t : tokens(text)) {
            if (t.kind == '$' && line.isEmpty()) {
                return lines;
            }
            line.add(t);
            boolean goes = false;
            boolean whole = false;
            for (String form : LINES[sort]) {
                String[] f = form.split(" ");
                boolean like = line.size() <= f.length;
                for (int i = 0; like && i < line.size(); i++) {
                    like = matches(f[i], line.get(i));
                }
                goes |= like;
                whole |= like && line.size() == f.length;
            }
            if (!goes) {
                fault = 1;
                place = t.place;
                return null;
            }
            if (whole) {
                lines.add(line);
                line = new ArrayList<>();
            }
        }
        throw new IllegalStateException();
    }

    private static int[] bounds(int sort, String word, int i) {
        switch (word) {
            case "size":
                return new int[] {2, 8};
            case "open", "shut", "weave", "mend", "grow":
                return new int[] {0, 7};
            case "slips", "held":
                return new int[] {1, 8};
            case "cut":
                return new int[] {1, 9};
            case "need":
                return new int[] {1, 60};
            case "deed":
                return i == 3 ? new int[] {0, 99} : new int[] {1, 8};
            default:
                return sort == 2 ? new int[] {1, 60} : i == 1 ? new int[] {0, 7} : new int[] {0, 9};
        }
    }

    private void lookAtNumbers(int sort, List<List<Token>> lines) {
        Map<String, Integer> many = new HashMap<>();
        for (List<Token> line : lines) {
            String word = line.get(0).text;
            String of = sort == 1 ? "deed" : sort == 3 && !word.equals("size") ? "clue" : word;
            int n = many.merge(of, 1, Integer::sum);
            int most = sort == 1 ? 40 : sort == 2 && of.equals("rod") ? 6
                : sort == 2 && of.equals("need") ? 8 : of.equals("clue") ? 10 : 9999;
            if (n > most && fault == 0) {
                fault = 3;
                place = line.get(0).place;
            }
            for (int i = 1; i < line.size(); i++) {
                if (line.get(i).kind == 'N' && fault == 0) {
                    int is = Integer.parseInt(line.get(i).text);
                    int[] b = bounds(sort, word, i);
                    if (is < b[0] || is > b[1]) {
                        fault = 2;
                        place = line.get(i).place;
                    }
                }
            }
        }
    }

    private static int num(List<Token> line, int i) {
        return Integer.parseInt(line.get(i).text);
    }

    private static B readBasket(List<List<Token>> lines) {
        B b = new B();
        for (List<Token> l : lines) {
            switch (l.get(0).text) {
                case "size" -> {
                    b.wide = num(l, 1);
                    b.high = num(l, 2);
                }
                case "open" -> b.open[num(l, 2)][num(l, 1)] = true;
                case "wet" -> b.wet = true;
                default -> {
                    int side = l.get(0).text.equals("rod") ? 0 : 1;
                    b.thick[side][num(l, 1)] = num(l, 2);
                    b.wear[side][num(l, 1)] = num(l, 3);
                }
            }
        }
        return b;
    }

    private static boolean missing(int sort, int wide, int high, List<List<Token>> lines) {
        for (List<Token> l : lines) {
            String word = l.get(0).text;
            boolean stroke = word.equals("open") || word.equals("shut");
            if (stroke && (num(l, 1) >= wide || num(l, 2) >= high)) {
                return true;
            }
            if (sort == 0 && word.equals("rod") && num(l, 1) >= high
                    || sort == 0 && word.equals("stake") && num(l, 1) >= wide) {
                return true;
            }
        }
        return false;
    }

    private static List<int[]> readYear(List<List<Token>> lines) {
        List<String> kinds = List.of("deed", "mend", "grow", "weave", "winter", "wet", "dry");
        List<int[]> year = new ArrayList<>();
        for (List<Token> l : lines) {
            int[] deed = {kinds.indexOf(l.get(0).text), -1, -1, -1};
            for (int i = 1; i < l.size() - 1; i++) {
                String t = l.get(i).text;
                deed[i] = t.equals("rod") ? 0 : t.equals("stake") ? 1 : Integer.parseInt(t);
            }
            year.add(deed);
        }
        return year;
    }

    private static P readParish(List<List<Token>> lines) {
        P p = new P();
        for (List<Token> l : lines) {
            switch (l.get(0).text) {
                case "rod" -> p.rods.add(num(l, 1));
                case "need" -> p.pieces.add(num(l, 1));
                default -> p.cut = num(l, 1);
            }
        }
        return p;
    }

    private static C readClues(List<List<Token>> lines) {
        C c = new C();
        for (List<Token> l : lines) {
            if (l.get(0).text.equals("size")) {
                c.wide = num(l, 1);
                c.high = num(l, 2);
            } else {
                int kind = List.of("open", "shut", "slips", "held").indexOf(l.get(0).text);
                c.clues.add(new int[] {kind, num(l, 1), num(l, 2)});
            }
        }
        return c;
    }

    int text(int sort, int at, String text) {
        fault = 0;
        place = -1;
        if (sort < 0 || sort > 3 || at < -1 || at >= told.get(sort).size() || at == -1 && told.get(sort).size() == 2) {
            return -2;
        }
        List<List<Token>> lines = lines(sort, text);
        if (lines == null) {
            return -1;
        }
        lookAtNumbers(sort, lines);
        if (fault != 0) {
            return -1;
        }
        Object is = sort == 0 ? readBasket(lines) : sort == 1 ? readYear(lines)
            : sort == 2 ? readParish(lines) : readClues(lines);
        if (is instanceof B b && missing(0, b.wide, b.high, lines)
                || is instanceof C c && missing(3, c.wide, c.high, lines)) {
            fault = 4;
            place = text.length();
            return -1;
        }
        if (at == -1) {
            told.get(sort).add(is);
            return told.get(sort).size() - 1;
        }
        told.get(sort).set(at, is);
        return at;
    }

    // ---- what is told ----

    B b(int i) {
        return i >= 0 && i < told.get(0).size() ? (B) told.get(0).get(i) : null;
    }

    @SuppressWarnings("unchecked")
    List<int[]> y(int i) {
        return i >= 0 && i < told.get(1).size() ? (List<int[]>) told.get(1).get(i) : null;
    }

    P p(int i) {
        return i >= 0 && i < told.get(2).size() ? (P) told.get(2).get(i) : null;
    }

    C c(int i) {
        return i >= 0 && i < told.get(3).size() ? (C) told.get(3).get(i) : null;
    }

    static boolean size(int w, int h) {
        return w >= 1 && w <= 8 && h >= 1 && h <= 8;
    }

    int basket(int i, int what) {
        B b = b(i);
        if (b == null) {
            return -2;
        }
        return what == 0 ? b.wide : what == 1 ? b.high : what == 2 ? (b.wet ? 1 : 0) : what == 3 ? b.opens() : b.part(what);
    }

    int slips(int i, int w, int h, boolean hold) {
        B b = b(i);
        return b == null || !size(w, h) ? -2 : hold ? b.hold(w, h) : b.slips(w, h);
    }

    int deed(int i, int k, int what) {
        List<int[]> y = y(i);
        if (y == null || what < 0 || what > 3) {
            return -2;
        }
        if (k == -1) {
            return what == 0 ? y.size() : -2;
        }
        return k < 0 || k >= y.size() ? -2 : y.get(k)[what];
    }

    /** A BASKET with what happened to it. */
    static final class S {
        B b;
        int[] what = new int[3];

        S(B b) {
            this.b = b.copy();
        }

        boolean does(int[] d) {
            int side = d[1];
            switch (d[0]) {
                case 0: {
                    int at = b.slips(d[1], d[2]);
                    int hold = b.hold(d[1], d[2]);
                    if (at >= 0) {
                        what[0]++;
                    } else if (hold >= 0 && d[3] > hold) {
                        int s = b.softest(d[1], d[2]);
                        for (int r = 0; r < d[2]; r++) {
                            for (int c = 0; c < d[1]; c++) {
                                b.open[s / b.wide + r][s % b.wide + c] = true;
                            }
                        }
                        what[1]++;
                    } else {
                        what[2]++;
                    }
                    return true;
                }
                case 1:
                    if (d[2] >= (side == 0 ? b.high : b.wide)) {
                        return false;
                    }
                    b.wear[side][d[2]] = 0;
                    return true;
                case 2:
                    if (d[2] >= (side == 0 ? b.high : b.wide) || b.thick[side][d[2]] == 9) {
                        return false;
                    }
                    b.thick[side][d[2]]++;
                    return true;
                case 3:
                    if (d[1] >= b.wide || d[2] >= b.high || !b.open[d[2]][d[1]]) {
                        return false;
                    }
                    b.open[d[2]][d[1]] = false;
                    return true;
                case 4:
                    for (int[] side2 : b.wear) {
                        for (int i = 0; i < 8; i++) {
                            side2[i] = side2[i] == 9 ? 9 : side2[i] + 1;
                        }
                    }
                    return true;
                default:
                    if (b.wet == (d[0] == 5)) {
                        return false;
                    }
                    b.wet = d[0] == 5;
                    return true;
            }
        }

        int part(int w) {
            if (w >= 0 && w < 3) {
                return what[w];
            }
            if (w == 3) {
                return b.opens();
            }
            if (w == 4) {
                return b.wet ? 1 : 0;
            }
            return w == 5 ? b.sum(0, b.wide, b.high) : b.part(w);
        }
    }

    List<S> states(B b, List<int[]> y) {
        List<S> all = new ArrayList<>();
        for (int n = 0; n <= y.size(); n++) {
            S s = new S(b);
            for (int i = 0; i < n; i++) {
                if (!s.does(y.get(i))) {
                    return all;
                }
            }
            all.add(s);
        }
        return all;
    }

    int till(int i, int j) {
        return b(i) == null || y(j) == null ? -1 : states(b(i), y(j)).size() - 1;
    }

    int state(int i, int j, int n, int what) {
        if (b(i) == null || y(j) == null) {
            return -2;
        }
        List<S> all = states(b(i), y(j));
        return n < 0 || n >= all.size() ? -2 : all.get(n).part(what);
    }

    int precedent(int i, int j, int w, int h) {
        if (b(i) == null || y(j) == null || !size(w, h)) {
            return -2;
        }
        List<S> all = states(b(i), y(j));
        for (int n = 0; n < all.size(); n++) {
            if (all.get(n).b.slips(w, h) >= 0) {
                return n;
            }
        }
        return -1;
    }

    private long x;

    private int draw(int n) {
        x = (x * 1103515245L + 12345L) & 0xffffffffL;
        return (int) ((x >> 16) % n);
    }

    int drawn(int i, int seed, int n, int what) {
        if (b(i) == null || n < 0 || n > 60) {
            return -2;
        }
        S s = new S(b(i));
        x = seed & 0xffffffffL;
        for (int k = 0; k < n; k++) {
            int lot = draw(8);
            if (lot <= 2) {
                int w = draw(4) + 1;
                int h = draw(4) + 1;
                s.does(new int[] {0, w, h, draw(40)});
            } else if (lot == 3) {
                s.does(new int[] {1, 0, draw(s.b.high)});
            } else if (lot == 4) {
                s.does(new int[] {2, 1, draw(s.b.wide)});
            } else if (lot == 5) {
                int at = draw(s.b.wide * s.b.high);
                s.does(new int[] {3, at % s.b.wide, at / s.b.wide});
            } else if (lot == 6) {
                s.does(new int[] {4, -1, -1});
            } else {
                s.does(new int[] {s.b.wet ? 6 : 5, -1, -1});
            }
        }
        return s.part(what);
    }

    int opens(int i, int w, int h, boolean place) {
        B b = b(i);
        if (b == null || !size(w, h) || w > b.wide || h > b.high) {
            return -1;
        }
        for (int n = 0; n <= 64; n++) {
            for (int s = 0; s < b.wide * b.high; s++) {
                if (s / b.wide + h <= b.high && s % b.wide + w <= b.wide) {
                    int shut = 0;
                    for (int k = 0; k < w * h; k++) {
                        shut += b.open[s / b.wide + k / w][s % b.wide + k % w] ? 0 : 1;
                    }
                    if (shut == n) {
                        return place ? s : n;
                    }
                }
            }
        }
        throw new IllegalStateException();
    }

    int closes(int i, int w, int h, int k) {
        B b = b(i);
        if (b == null || !size(w, h)) {
            return -1;
        }
        for (int n = 0; n <= 3; n++) {
            int[] row = new int[n];
            if (closeMore(b.copy(), w, h, row, 0, 0)) {
                return k == -1 ? n : k >= 0 && k < n ? row[k] : -1;
            }
        }
        return -1;
    }

    private boolean closeMore(B b, int w, int h, int[] row, int at, int from) {
        if (at == row.length) {
            return b.slips(w, h) < 0;
        }
        for (int s = from; s < b.wide * b.high; s++) {
            if (b.open[s / b.wide][s % b.wide]) {
                b.open[s / b.wide][s % b.wide] = false;
                row[at] = s;
                boolean does = closeMore(b, w, h, row, at + 1, s + 1);
                b.open[s / b.wide][s % b.wide] = true;
                if (does) {
                    return true;
                }
            }
        }
        return false;
    }

    int sieve(int i, int w, int h, int w2, int h2) {
        B b = b(i);
        if (b == null || !size(w, h) || !size(w2, h2)) {
            return -1;
        }
        for (int n = 0; n <= b.high; n++) {
            for (int bits = 0; bits < 1 << b.high; bits++) {
                if (Integer.bitCount(bits) == n) {
                    B c = b.copy();
                    for (int r = 0; r < b.high; r++) {
                        for (int s = 0; s < b.wide; s++) {
                            c.open[r][s] |= (bits >> r & 1) == 1;
                        }
                    }
                    if (c.slips(w, h) >= 0 && c.slips(w2, h2) < 0) {
                        return bits;
                    }
                }
            }
        }
        return -1;
    }

    /** Of each STROKE the least FORCE and the fewest STROKES with it, by Dijkstra. */
    private static int[][] ways(B b, int from) {
        int[][] best = new int[b.wide * b.high][];
        PriorityQueue<int[]> queue = new PriorityQueue<>((p, q) -> p[0] != q[0] ? p[0] - q[0] : p[1] - q[1]);
        queue.add(new int[] {b.strength(from / b.wide, from % b.wide), 1, from});
        while (!queue.isEmpty()) {
            int[] is = queue.poll();
            if (best[is[2]] != null) {
                continue;
            }
            best[is[2]] = is;
            int r = is[2] / b.wide;
            int c = is[2] % b.wide;
            for (int[] step : new int[][] {{1, 0}, {-1, 0}, {0, 1}, {0, -1}}) {
                int r2 = r + step[0];
                int c2 = c + step[1];
                if (r2 >= 0 && r2 < b.high && c2 >= 0 && c2 < b.wide) {
                    queue.add(new int[] {is[0] + b.strength(r2, c2), is[1] + 1, r2 * b.wide + c2});
                }
            }
        }
        return best;
    }

    int escape(int i, int s, boolean steps) {
        B b = b(i);
        if (b == null || s < 0 || s >= b.wide * b.high) {
            return -1;
        }
        int[] best = null;
        for (int[] is : ways(b, s)) {
            int r = is[2] / b.wide;
            int c = is[2] % b.wide;
            boolean rim = r == 0 || c == 0 || r == b.high - 1 || c == b.wide - 1;
            if (rim && (best == null || is[0] < best[0] || is[0] == best[0] && is[1] < best[1])) {
                best = is;
            }
        }
        return best[steps ? 1 : 0];
    }

    int tunnel(int i, int from, int to) {
        B b = b(i);
        int n = b == null ? 0 : b.wide * b.high;
        return from < 0 || from >= n || to < 0 || to >= n ? -1 : ways(b, from)[to][0];
    }

    private static int flood(boolean[][] open, int r, int c) {
        if (r < 0 || c < 0 || r > 7 || c > 7 || !open[r][c]) {
            return 0;
        }
        open[r][c] = false;
        return 1 + flood(open, r + 1, c) + flood(open, r - 1, c) + flood(open, r, c + 1) + flood(open, r, c - 1);
    }

    int holes(int i, int what) {
        B b = b(i);
        if (b == null || what < 0 || what > 2) {
            return -1;
        }
        int largest = 0;
        for (int w = 1; w <= 8; w++) {
            for (int h = 1; h <= 8; h++) {
                largest = b.slips(w, h) >= 0 ? Math.max(largest, w * h) : largest;
            }
        }
        B c = b.copy();
        int n = 0;
        int most = 0;
        for (int s = 0; s < 64; s++) {
            int part = flood(c.open, s / 8, s % 8);
            n += part > 0 ? 1 : 0;
            most = Math.max(most, part);
        }
        return what == 0 ? n : what == 1 ? most : largest;
    }

    long last(int i, int n, int what) {
        B b = b(i);
        if (b == null || n < 0 || n > 8 || what < 0 || what > 2) {
            return -1;
        }
        BigInteger best = BigInteger.valueOf(-1);
        int rods = 0;
        for (int k = 0; k <= n; k++) {
            for (int bits = 0; bits < 1 << b.high; bits++) {
                if (Integer.bitCount(bits) == k) {
                    BigInteger is = BigInteger.ONE;
                    for (int r = 0; r < b.high; r++) {
                        is = is.multiply(BigInteger.valueOf((bits >> r & 1) == 1 ? 10 : 10 - b.wear[0][r]));
                    }
                    if (is.compareTo(best) > 0) {
                        best = is;
                        rods = bits;
                    }
                }
            }
        }
        BigInteger all = BigInteger.TEN.pow(b.high);
        BigInteger gcd = all.gcd(best);
        return what == 2 ? rods : (what == 0 ? best : all).divide(gcd).longValueExact();
    }

    int unlike(int i, int j, boolean stricter) {
        B a = b(i);
        B b = b(j);
        if (a == null || b == null) {
            return -2;
        }
        boolean in = true;
        boolean about = true;
        int n = 0;
        for (int w = 1; w <= 8; w++) {
            for (int h = 1; h <= 8; h++) {
                boolean one = a.slips(w, h) >= 0;
                boolean two = b.slips(w, h) >= 0;
                n += one != two ? 1 : 0;
                in &= !one || two;
                about &= !two || one;
            }
        }
        return !stricter ? n : in && about ? 2 : in ? 0 : about ? 1 : -1;
    }

    int stout(int i, int w, int h, boolean hold) {
        B b = b(i);
        if (b == null || !size(w, h) || b.hold(w, h) < 0) {
            return -1;
        }
        int best = -1;
        int most = -1;
        for (int t = 0; t < 16; t++) {
            B c = b.copy();
            if (t % 8 < (t < 8 ? b.high : b.wide) && c.thick[t / 8][t % 8] < 9) {
                c.thick[t / 8][t % 8]++;
                if (c.hold(w, h) > most) {
                    most = c.hold(w, h);
                    best = t;
                }
            }
        }
        return hold ? most : best;
    }

    int soft(int i, int n, boolean hold) {
        B b = b(i);
        int best = -1;
        int least = -1;
        for (int code = 11; b != null && code <= 88; code++) {
            int w = code / 10;
            int h = code % 10;
            if (size(w, h) && w * h == n && b.hold(w, h) >= 0 && (best == -1 || b.hold(w, h) < least)) {
                best = code;
                least = b.hold(w, h);
            }
        }
        return hold ? least : best;
    }

    int mirrored(int i, int what) {
        B b = b(i);
        if (b == null || what < 0 || what > 2) {
            return -1;
        }
        int[] rows = new int[b.high];
        int[] columns = new int[b.wide];
        int is = 3;
        for (int r = 0; r < b.high; r++) {
            for (int c = 0; c < b.wide; c++) {
                rows[r] += b.open[r][c] ? 1 : 0;
                columns[c] += b.open[r][c] ? 1 : 0;
                is &= b.open[r][c] != b.open[r][b.wide - 1 - c] ? 2 : 3;
                is &= b.open[r][c] != b.open[b.high - 1 - r][c] ? 1 : 3;
            }
        }
        int[] of = what == 1 ? rows : columns;
        int best = 0;
        for (int k = of.length - 1; k >= 0; k--) {
            best = k == of.length - 1 || of[k] >= of[best] ? k : best;
        }
        return what == 0 ? is : best;
    }

    int parish(int i, int what) {
        P p = p(i);
        if (p == null) {
            return -1;
        }
        if (what >= 0 && what < 3) {
            return what == 0 ? p.rods.size() : what == 1 ? p.pieces.size() : p.cut;
        }
        if (what >= 10 && what < 10 + p.rods.size()) {
            return p.rods.get(what - 10);
        }
        return what >= 20 && what < 20 + p.pieces.size() ? p.pieces.get(what - 20) : -1;
    }

    /** All rows of RODS (the number of RODS: not cut) by PIECES, in order; the best of each question is kept. */
    private static final class Cuts {
        final P p;
        final int[] row;
        final int[] left;
        int fewest = 99;
        int[] first;
        int spare = 9999;
        int longest = 0;

        Cuts(P p) {
            this.p = p;
            row = new int[p.pieces.size()];
            left = p.rods.stream().mapToInt(Integer::intValue).toArray();
            go(0, 0);
        }

        private void go(int at, int cut) {
            if (at == row.length) {
                longest = Math.max(longest, cut);
                int rods = 0;
                int over = 0;
                for (int r = 0; r < left.length; r++) {
                    boolean is = left[r] < p.rods.get(r);
                    rods += is ? 1 : 0;
                    over += is ? left[r] : 0;
                }
                if (cut == row.length) {
                    spare = Math.min(spare, over);
                    if (rods < fewest) {
                        fewest = rods;
                        first = row.clone();
                    }
                }
                return;
            }
            for (int r = 0; r <= left.length; r++) {
                row[at] = r;
                int length = p.pieces.get(at);
                if (r == left.length) {
                    go(at + 1, cut);
                } else if (left[r] >= length) {
                    left[r] -= length;
                    go(at + 1, cut + 1);
                    left[r] += length;
                }
            }
        }
    }

    int cutting(int i, int k) {
        P p = p(i);
        if (p == null || k < -3 || k >= p.pieces.size()) {
            return -1;
        }
        Cuts c = new Cuts(p);
        if (k == -3) {
            return c.longest;
        }
        return c.first == null ? -1 : k == -1 ? c.fewest : k == -2 ? c.spare : c.first[k];
    }

    int kept(int i) {
        P p = p(i);
        if (p == null) {
            return -1;
        }
        Cuts c = new Cuts(p);
        return c.first == null ? -1 : p.rods.size() - c.fewest;
    }

    private static boolean wins(List<Integer> rods, int cut, boolean losing, Map<List<Integer>, Boolean> known) {
        List<Integer> key = new ArrayList<>(rods);
        key.sort(null);
        Boolean is = known.get(key);
        if (is == null) {
            is = first(rods, cut, losing, known) >= 0 || losing && rods.stream().allMatch(r -> r == 0);
            known.put(key, is);
        }
        return is;
    }

    private static int first(List<Integer> rods, int cut, boolean losing, Map<List<Integer>, Boolean> known) {
        for (int r = 0; r < rods.size(); r++) {
            for (int off = 1; off <= cut && off <= rods.get(r); off++) {
                List<Integer> next = new ArrayList<>(rods);
                next.set(r, rods.get(r) - off);
                if (!wins(next, cut, losing, known)) {
                    return 10 * r + off;
                }
            }
        }
        return -1;
    }

    int game(int i, boolean last, boolean first) {
        P p = p(i);
        if (p == null) {
            return -2;
        }
        Map<List<Integer>, Boolean> known = new HashMap<>();
        return first ? first(p.rods, p.cut, last, known) : wins(p.rods, p.cut, last, known) ? 1 : 0;
    }

    int divided(int i, int n, int k) {
        P p = p(i);
        if (p == null || n < 1 || n > 4 || k < -1 || k >= p.rods.size()) {
            return -1;
        }
        int least = 0;
        while (!divides(p, n, new int[n], new int[p.rods.size()], 0, least)) {
            least++;
        }
        int[] row = new int[p.rods.size()];
        divides(p, n, new int[n], row, 0, least);
        return k == -1 ? least : row[k];
    }

    private boolean divides(P p, int n, int[] has, int[] row, int at, int least) {
        if (at == row.length) {
            return true;
        }
        for (int who = 0; who < n; who++) {
            if (has[who] + p.rods.get(at) <= least) {
                has[who] += p.rods.get(at);
                row[at] = who;
                if (divides(p, n, has, row, at + 1, least)) {
                    return true;
                }
                has[who] -= p.rods.get(at);
            }
        }
        return false;
    }

    int clues(int i, int what) {
        C c = c(i);
        if (c == null) {
            return -1;
        }
        if (what >= 0 && what < 3) {
            return what == 0 ? c.wide : what == 1 ? c.high : c.clues.size();
        }
        int k = what % 10;
        return what < 10 || what > 39 || k >= c.clues.size() ? -1 : c.clues.get(k)[what / 10 - 1];
    }

    /** The GAPS that FIT, as BASKETS, by their numbers. */
    private static Map<Integer, B> fitting(C c) {
        Map<Integer, B> all = new java.util.TreeMap<>();
        for (int number = 0; number < 4096; number++) {
            int h = number / 512 + 1;
            int w = number / 64 % 8 + 1;
            int s = number % 64;
            if (s >= c.wide * c.high || s / c.wide + h > c.high || s % c.wide + w > c.wide) {
                continue;
            }
            B b = new B();
            b.wide = c.wide;
            b.high = c.high;
            for (int k = 0; k < w * h; k++) {
                b.open[s / c.wide + k / w][s % c.wide + k % w] = true;
            }
            boolean fits = true;
            for (int[] clue : c.clues) {
                boolean is = clue[0] < 2 ? b.open[clue[2]][clue[1]] : b.slips(clue[1], clue[2]) >= 0;
                fits &= is == (clue[0] == 0 || clue[0] == 2);
            }
            if (fits) {
                all.put(number, b);
            }
        }
        return all;
    }

    int gaps(int i, int what) {
        C c = c(i);
        if (c == null || what < 0) {
            return -2;
        }
        Map<Integer, B> all = fitting(c);
        if (what == 0) {
            return all.size();
        }
        if (what >= 1000) {
            return what - 1000 < all.size() ? new ArrayList<>(all.keySet()).get(what - 1000) : -2;
        }
        int best = -1;
        int least = 0;
        for (int s = 0; s < c.wide * c.high; s++) {
            int open = 0;
            for (B b : all.values()) {
                open += b.open[s / c.wide][s % c.wide] ? 1 : 0;
            }
            int shut = all.size() - open;
            if (what == 100 + s) {
                return all.isEmpty() || open > 0 && shut > 0 ? -1 : open > 0 ? 1 : 0;
            }
            if (best == -1 || Math.max(open, shut) < least) {
                best = s;
                least = Math.max(open, shut);
            }
        }
        return what != 1 ? -2 : all.isEmpty() ? -1 : best;
    }

    int count(int sort) {
        return sort < 0 || sort > 3 ? -2 : told.get(sort).size();
    }
}
