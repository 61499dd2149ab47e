import java.io.IOException;
import java.lang.reflect.Method;
import java.lang.reflect.Modifier;
import java.nio.file.Files;
import java.nio.file.Path;
import java.util.ArrayList;
import java.util.List;
import java.util.regex.Matcher;
import java.util.regex.Pattern;

/** The examples of README.md compile and answer what is written behind them; every method has one. */
public final class ReadmeTest {
    private static final Due DUE = new Due("ReadmeTest");
    private static final Pattern BLOCK = Pattern.compile("(?s)```java\n(.*?)```");
    private static final Pattern CALL = Pattern.compile("(\\S.*);\\s+// (-?\\d+|NONE|true|false)(:.*)?");

    private static String answer(String told) {
        return told.equals("NONE") ? "WillowLaw.NONE" : told;
    }

    /** A row with an answer becomes a row of the test; any other one stays as it is. */
    private static String statement(String line, List<String> calls) {
        Matcher m = CALL.matcher(line);
        if (!m.matches()) {
            return line + "\n";
        }
        calls.add(m.group(1));
        String quoted = m.group(1).replace("\\", "\\\\").replace("\"", "\\\"");
        return "due.is(\"" + quoted + "\", " + m.group(1) + ", " + answer(m.group(2)) + ");\n";
    }

    /** A block of methods goes into the class, all others, one behind the other, into one method of it. */
    private static String program(String readme, List<String> calls) {
        StringBuilder helps = new StringBuilder();
        StringBuilder rows = new StringBuilder();
        Matcher block = BLOCK.matcher(readme);
        while (block.find()) {
            if (block.group(1).startsWith("static ")) {
                helps.append(block.group(1));
                continue;
            }
            for (String line : block.group(1).split("\n")) {
                rows.append(statement(line, calls));
            }
        }
        return "final class ReadmeRows {\n" + helps + "static void ask(Due due) {\n" + rows + "}\n}\n";
    }

    /** The directory that the tests themselves were compiled into takes the rows, too: they use Due. */
    private static void run(String program) throws IOException, InterruptedException, ReflectiveOperationException {
        String classes = System.getProperty("java.class.path");
        Path source = Path.of(classes, "ReadmeRows.java");
        Files.writeString(source, program);
        int failed = new ProcessBuilder("javac", "-cp", classes, "-d", classes, source.toString())
            .inheritIO().start().waitFor();
        DUE.is("README.md's examples compile", failed, 0);
        if (failed == 0) {
            Class.forName("ReadmeRows").getDeclaredMethod("ask", Due.class).invoke(null, DUE);
        }
    }

    private static void everyMethodIsShown(List<String> calls, String readme) {
        String all = String.join("\n", calls);
        for (Method m : WillowLaw.class.getDeclaredMethods()) {
            if (Modifier.isPublic(m.getModifiers())) {
                DUE.is("an example of " + m.getName(), all.contains("." + m.getName() + "("), true);
            }
        }
        DUE.is("how the tests are run", readme.contains(".ci/run"), true);
    }

    public static void main(String[] args)
            throws IOException, InterruptedException, ReflectiveOperationException {
        String readme = Files.readString(Path.of("README.md"));
        List<String> calls = new ArrayList<>();
        String program = program(readme, calls);
        run(program);
        everyMethodIsShown(calls, readme);
        DUE.finish();
    }
}
