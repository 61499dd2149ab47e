import java.lang.reflect.Method;
import java.lang.reflect.Modifier;
import java.util.Random;

/** All promises: any arguments in any state, and no call throws; what asks changes nothing. */
public final class WrongInputsTest {
    private static final Due DUE = new Due("WrongInputsTest");
    private static final int[] ODD = {0, 1, -1, -2, -3, -4, 2, 3, 7, 8, 9, 10, 19, 48, 64, 100, 163, 164, 600, 601, 1000,
        2295, 2296, Integer.MAX_VALUE, Integer.MIN_VALUE, Integer.MAX_VALUE - 99, Integer.MIN_VALUE + 1};
    private static final String[] FULL = {
        "size 8 8;rod 0 9 9;rod 7 9 9;stake 7 9 0;open 7 7;open 0 0;open 7 6;wet;",
        "deed 8 8 99;mend rod 7;grow stake 7;weave 7 7;winter;wet;dry;deed 1 1 99;",
        "rod 60;rod 60;rod 59;rod 58;rod 57;rod 56;need 60;need 1;need 30;need 30;need 7;need 8;need 9;need 10;cut 9;",
        "size 8 8;shut 7 7;held 8 8;slips 1 1;shut 0 0;"};
    private static final String[] LEAST = {"size 2 2;", "", "", "size 2 2;"};

    private static WillowLaw told(String[] texts) {
        WillowLaw x = new WillowLaw();
        for (int sort = 0; sort < 4; sort++) {
            Due.text(x, sort, -1, texts[sort]);
        }
        return x;
    }

    private static Object[] arguments(Method m, Random random) {
        Class<?>[] types = m.getParameterTypes();
        Object[] all = new Object[types.length];
        for (int i = 0; i < types.length; i++) {
            if (types[i] == boolean.class) {
                all[i] = random.nextBoolean();
            } else {
                int lot = random.nextInt(10);
                all[i] = lot == 0 ? random.nextInt() : lot < 4 ? random.nextInt(3) : ODD[random.nextInt(ODD.length)];
            }
        }
        return all;
    }

    private static boolean throwsNothing(WillowLaw x, Method m, Object[] arguments) {
        try {
            m.invoke(x, arguments);
            return true;
        } catch (ReflectiveOperationException e) {
            System.out.println(m.getName() + java.util.Arrays.toString(arguments) + ": " + e.getCause());
            return false;
        }
    }

    private static void everyCall(WillowLaw x, long seed, int calls) {
        Random random = new Random(seed);
        for (Method m : WillowLaw.class.getDeclaredMethods()) {
            for (int i = 0; i < calls && Modifier.isPublic(m.getModifiers()); i++) {
                DUE.is(m.getName(), throwsNothing(x, m, arguments(m, random)), true);
            }
        }
    }

    /** Random bytes as texts, of every length. */
    private static void anyBytes() {
        Random random = new Random(5);
        String signs = "size open rod stake wet deed mend 12 0 ; ; ; cut need shut held slips winter dry weave grow 7 8 9";
        WillowLaw x = new WillowLaw();
        for (int n = 0; n <= 600; n++) {
            byte[] text = new byte[n];
            random.nextBytes(text);
            for (int i = 0; i < n && n % 4 != 0; i++) {
                text[i] = (byte) signs.charAt(random.nextInt(signs.length()));
            }
            Due.tell(x, text);
            int sort = n % 4;
            int answer = x.text(sort, x.count(sort) == 2 ? 0 : -1);
            DUE.is("5: a place within the tape", x.fault(1) <= n && x.fault(1) >= -1, true);
            DUE.is("5: a FAULT just with NONE", x.fault(0) != 0, answer == -1);
            DUE.is("4: the tape is empty", x.end(1), -1);
        }
    }

    /** Of an object without anything told, each call says so. */
    private static void nothingTold() {
        WillowLaw x = new WillowLaw();
        long[] two = {x.basket(0, 0), x.slips(0, 1, 1, false), x.deed(0, -1, 0), x.state(0, 0, 0, 0), x.unlike(0, 0, true),
            x.game(0, false, false), x.gaps(0, 0), x.drawn(0, 1, 1, 0), x.precedent(0, 0, 1, 1)};
        for (long is : two) {
            DUE.is("none such: -2", is, -2);
        }
        long[] none = {x.till(0, 0), x.opens(0, 1, 1, false), x.closes(0, 1, 1, -1), x.sieve(0, 1, 1, 2, 2),
            x.escape(0, 0, false), x.holes(0, 0), x.last(0, 0, 0), x.parish(0, 0), x.cutting(0, -1), x.clues(0, 0),
            x.stout(0, 1, 1, true), x.soft(0, 1, true), x.tunnel(0, 0, 0), x.mirrored(0, 0), x.divided(0, 1, -1), x.kept(0)};
        for (long is : none) {
            DUE.is("none such: NONE", is, -1);
        }
    }

    /** All that an object tells of itself, in one number. */
    private static long allOf(WillowLaw x) {
        long sum = x.fault(0) + 31L * x.fault(1);
        for (int i = 0; i < 2; i++) {
            for (int what = 0; what < 200; what++) {
                sum = sum * 31 + x.basket(i, what);
                sum = sum * 31 + x.parish(i, what);
                sum = sum * 31 + x.clues(i, what);
                sum = sum * 31 + x.deed(i, what / 4, what % 4);
            }
        }
        return sum;
    }

    private static void questionsChangeNothing() {
        WillowLaw x = told(FULL);
        long before = allOf(x);
        Random random = new Random(11);
        for (Method m : WillowLaw.class.getDeclaredMethods()) {
            boolean asks = !java.util.List.of("feed", "end", "text", "image", "again").contains(m.getName());
            for (int i = 0; i < 100 && asks && Modifier.isPublic(m.getModifiers()); i++) {
                throwsNothing(x, m, arguments(m, random));
            }
            DUE.is(m.getName() + " changes nothing", allOf(x), before);
        }
    }

    public static void main(String[] args) {
        for (int seed = 0; seed < 8; seed++) {
            everyCall(new WillowLaw(), seed, 100);
            everyCall(told(LEAST), seed, 200);
            everyCall(told(FULL), seed, 300);
        }
        anyBytes();
        nothingTold();
        questionsChangeNothing();
        DUE.finish();
    }
}
