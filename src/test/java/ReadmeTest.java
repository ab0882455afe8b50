import java.io.IOException;
import java.lang.reflect.InvocationTargetException;
import java.lang.reflect.Method;
import java.nio.file.Files;
import java.nio.file.Path;
import java.util.regex.Matcher;
import java.util.regex.Pattern;

/** Makes the calls that README.md shows, in their order, and compares what it says that they answer. */
final class ReadmeTest {
    private static final Pattern NEW_OFFICE = Pattern.compile(" {4}KitePermits office = new KitePermits\\(\\);");
    private static final Pattern CALL = Pattern.compile(" {4}(office\\.(\\w+)\\((.*?)\\);) *(.*)");
    private static final Pattern ANSWER = Pattern.compile("// (.+?)(?: - .*)?");
    // Far fewer than README.md shows: a page whose calls are not found at all must not pass.
    private static final int FEWEST_CALLS = 25;

    private ReadmeTest() {
    }

    private static Object argument(String text) {
        return Integer.decode(text.trim());
    }

    private static Method method(String name) {
        for (Method method : KitePermits.class.getMethods()) {
            if (method.getName().equals(name)) {
                return method;
            }
        }
        throw new IllegalStateException("KitePermits has no method " + name);
    }

    private static String answer(KitePermits office, String name, String arguments) throws IllegalAccessException {
        String[] parts = arguments.isEmpty() ? new String[0] : arguments.split(",");
        Object[] values = new Object[parts.length];
        for (int i = 0; i < parts.length; i++) {
            values[i] = argument(parts[i]);
        }
        try {
            Object answer = method(name).invoke(office, values);
            return answer == null ? "nothing" : answer.toString();
        } catch (InvocationTargetException e) {
            return "throws " + e.getCause().getClass().getSimpleName();
        }
    }

    static void feed(KitePermits office, String text) {
        int[] row = new int[5];
        for (int i = 0; i < text.length() || i % 20 != 0; i++) {
            row[i % 20 / 4] = row[i % 20 / 4] << 8 | (i < text.length() ? text.charAt(i) : ' ');
            if (i % 20 == 19) {
                office.append(row[0], row[1], row[2], row[3], row[4]);
            }
        }
    }

    /** The loop that README.md shows is the one above, and puts in texts of any length up to 500. */
    private static void shownLoop(String page) throws IOException {
        int from = page.indexOf("    static void feed(");
        int to = page.indexOf("\n    }\n", from);
        Check.same("README.md shows the loop", from >= 0 && to > from, true);
        String source = Files.readString(Path.of("src/test/java/ReadmeTest.java"));
        String loop = page.substring(Math.max(0, from), Math.max(0, to));
        Check.same("the loop is the one here", source.contains(loop), true);
        for (int length : new int[] {0, 1, 19, 20, 21, 39, 40, 481, 500}) {
            KitePermits office = new KitePermits();
            String text = " ".repeat(length);
            feed(office, length < 9 ? text : "launch 0;" + text.substring(9));
            Check.same("a script of " + length + " bytes", office.runScript(), length < 9 ? 0 : 1);
        }
    }

    public static void main(String[] args) throws IOException, IllegalAccessException {
        shownLoop(Files.readString(Path.of("README.md")));
        KitePermits office = null;
        int calls = 0;
        for (String line : Files.readAllLines(Path.of("README.md"))) {
            if (NEW_OFFICE.matcher(line).matches()) {
                office = new KitePermits();
            }
            Matcher call = CALL.matcher(line);
            if (call.matches()) {
                Matcher shown = ANSWER.matcher(call.group(4));
                String due = shown.matches() ? shown.group(1) : "";
                Check.same(call.group(1), answer(office, call.group(2), call.group(3)), due);
                calls++;
            }
        }
        Check.same("README.md shows enough calls", calls >= FEWEST_CALLS, true);
        Check.finish("ReadmeTest");
    }
}
