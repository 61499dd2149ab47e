import java.io.IOException;
import java.lang.reflect.Constructor;
import java.lang.reflect.Field;
import java.lang.reflect.Method;
import java.lang.reflect.Modifier;
import java.nio.file.Files;
import java.nio.file.Path;
import java.util.ArrayList;
import java.util.Arrays;
import java.util.IdentityHashMap;
import java.util.List;
import java.util.Map;
import java.util.regex.Matcher;
import java.util.regex.Pattern;

/** The face of the document, and those rules of LANGUAGE.md that can be seen from outside or in the source. */
public final class LanguageTest {
    private static final Due DUE = new Due("LanguageTest");
    private static final String[] FACE = {
        "int feed(int,int,int,int,int)", "int end(int)", "int text(int,int)", "int fault(int)", "int basket(int,int)",
        "int slips(int,int,int,boolean)", "int deed(int,int,int)", "int till(int,int)", "int state(int,int,int,int)",
        "int opens(int,int,int,boolean)", "int closes(int,int,int,int)", "int sieve(int,int,int,int,int)",
        "int escape(int,int,boolean)", "int holes(int,int)", "long last(int,int,int)", "int unlike(int,int,boolean)",
        "int parish(int,int)", "int cutting(int,int)", "int game(int,boolean,boolean)", "int clues(int,int)",
        "int gaps(int,int)", "int drawn(int,int,int,int)", "int precedent(int,int,int,int)",
        "int stout(int,int,int,boolean)", "int soft(int,int,boolean)", "int tunnel(int,int,int)", "int mirrored(int,int)",
        "int divided(int,int,int)", "int kept(int)", "int count(int)", "boolean image(int)", "boolean again(int)"};
    private static final String[] RULED_OUT = {"throw", "try", "catch", "synchronized", "assert", "import", "package",
        "protected", "native", "transient", "volatile", "yield", "var", "->", "::", "System\\.(?!arraycopy)", "Exact",
        "hashCode", "toString", "String\\s*\\[", "\"\\s*\\+", "\\+\\s*\"", "float", "double"};

    private static void face() {
        Class<WillowLaw> is = WillowLaw.class;
        DUE.is("public and final", Modifier.isPublic(is.getModifiers()) && Modifier.isFinal(is.getModifiers()), true);
        List<String> open = new ArrayList<>();
        List<String> names = new ArrayList<>();
        for (Method m : is.getDeclaredMethods()) {
            if (Modifier.isPrivate(m.getModifiers())) {
                names.add(m.getName());
                continue;
            }
            StringBuilder told = new StringBuilder(m.getReturnType() + " " + m.getName() + "(");
            for (Class<?> type : m.getParameterTypes()) {
                told.append(told.charAt(told.length() - 1) == '(' ? "" : ",").append(type);
            }
            open.add(told.append(')').toString());
            DUE.is(m.getName() + " is public and of the object", Modifier.isPublic(m.getModifiers())
                && !Modifier.isStatic(m.getModifiers()), true);
        }
        for (String method : FACE) {
            DUE.is("has " + method, open.remove(method), true);
            DUE.is("no private " + method, names.contains(method.replaceAll("^\\w+ |\\(.*", "")), false);
        }
        DUE.is("no more methods than those: " + open, open.size(), 0);
        DUE.is("one constructor", is.getDeclaredConstructors().length, 1);
        for (Constructor<?> c : is.getDeclaredConstructors()) {
            DUE.is("a public one without parameters", Modifier.isPublic(c.getModifiers()) && c.getParameterCount() == 0, true);
        }
    }

    private static void fields(Class<?> of) {
        int own = 0;
        for (Field f : of.getDeclaredFields()) {
            int is = f.getModifiers();
            if (Modifier.isStatic(is)) {
                DUE.is(f + " is final", Modifier.isFinal(is), true);
            } else {
                own++;
            }
            boolean none = f.getName().equals("NONE");
            DUE.is(f + " is private in the face", of != WillowLaw.class || none || Modifier.isPrivate(is), true);
        }
        DUE.is(of + " has twenty fields at most", own <= 20, true);
        String face = String.join(" ", FACE);
        for (Method m : of.getDeclaredMethods()) {
            DUE.is(m + " takes seven at most", m.getParameterCount() <= 7, true);
            boolean faceName = face.contains(" " + m.getName() + "(");
            DUE.is(m + " has a name of its own", of == WillowLaw.class || !faceName, true);
        }
    }

    private static void classes() {
        Class<?>[] inside = WillowLaw.class.getDeclaredClasses();
        DUE.is("twelve classes at most", inside.length + 1 <= 12, true);
        fields(WillowLaw.class);
        for (Class<?> c : inside) {
            DUE.is(c + " is static", Modifier.isStatic(c.getModifiers()), true);
            DUE.is(c + " is not public", Modifier.isPublic(c.getModifiers()), false);
            fields(c);
        }
    }

    private static void source() throws IOException {
        String text = Files.readString(Path.of("src/main/java/WillowLaw.java"));
        for (char c : text.toCharArray()) {
            if (c != '\n' && (c < 32 || c > 126)) {
                DUE.is("a sign of the source", c, 32);
            }
        }
        String code = text.replaceAll("(?s)/\\*.*?\\*/", "").replaceAll("//[^\n]*", "");
        for (String word : RULED_OUT) {
            String bounded = word.matches("\\w+") ? "\\b" + word + "\\b" : word;
            Matcher m = Pattern.compile(bounded).matcher(code);
            DUE.is("ruled out: " + word, m.find(), false);
        }
        DUE.is("no static block", Pattern.compile("static\\s*\\{").matcher(code).find(), false);
        lengths(code.split("\n", -1));
    }

    /** A method goes from its head to the brace that stands as far in. */
    private static void lengths(String[] lines) {
        for (int i = 0; i < lines.length; i++) {
            if (lines[i].matches(" +[\\w \\[\\]]+\\(.*\\) \\{") && !lines[i].matches(" +(if|for|while|switch|\\}).*")) {
                String close = lines[i].replaceAll("\\S.*", "") + "}";
                int end = i;
                while (end < lines.length && !lines[end].equals(close)) {
                    end++;
                }
                DUE.is(lines[i].trim() + " is short", end - i < 60, true);
            }
        }
    }

    /** How much one object holds: [0] objects and arrays, [1] fields and elements. */
    private static void weigh(Object o, Map<Object, Boolean> seen, long[] sum) throws IllegalAccessException {
        if (o == null || seen.put(o, true) != null) {
            return;
        }
        sum[0]++;
        if (o.getClass().isArray()) {
            sum[1] += java.lang.reflect.Array.getLength(o);
            if (o instanceof Object[] all) {
                for (Object part : all) {
                    weigh(part, seen, sum);
                }
            }
            return;
        }
        for (Field f : o.getClass().getDeclaredFields()) {
            if (!Modifier.isStatic(f.getModifiers())) {
                sum[1]++;
                f.setAccessible(true);
                if (!f.getType().isPrimitive()) {
                    weigh(f.get(o), seen, sum);
                }
            }
        }
    }

    private static void room() throws IllegalAccessException {
        WillowLaw x = new WillowLaw();
        long[] sum = new long[2];
        weigh(x, new IdentityHashMap<>(), sum);
        System.out.println("a new object: " + Arrays.toString(sum));
        DUE.is("a new object is small", sum[0] <= 80 && sum[1] <= 3000, true);
        for (int i = 0; i < 300; i++) {
            x.image(i % 3);
            x.again(i % 3);
        }
        long[] more = new long[2];
        weigh(x, new IdentityHashMap<>(), more);
        System.out.println("with its images: " + Arrays.toString(more));
        DUE.is("with its images, too", more[0] <= 200 && more[1] <= 7000, true);
    }

    public static void main(String[] args) throws IOException, IllegalAccessException {
        face();
        classes();
        source();
        room();
        DUE.finish();
    }
}
