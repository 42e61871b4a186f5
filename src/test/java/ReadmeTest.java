import java.io.IOException;
import java.lang.reflect.Method;
import java.nio.file.Files;
import java.nio.file.Path;
import java.util.Arrays;
import java.util.List;
import java.util.regex.Matcher;
import java.util.regex.Pattern;

/** What README.md shows is so: its calls, made one behind the other, answer what it writes behind them. */
public final class ReadmeTest {
    private static final Pattern TELLS = Pattern.compile("tell\\(x, \"([^\"]*)\"\\);");
    private static final Pattern CALL = Pattern.compile("x\\.(\\w+)\\(([^)]*)\\);(?: +// (true|false|-?\\d+)(?:: .*)?)?");
    private static final int CALLS_SHOWN = 61;

    public static void main(String[] args) throws IOException, ReflectiveOperationException {
        List<String> page = Files.readAllLines(Path.of("README.md"));
        helperIsShown(page);
        makeCalls(page);
        Check.finish("ReadmeTest");
    }

    static void tell(SecondHelpings x, String text) {
        int end = x.count(4) + text.length();
        int[] four = new int[5];
        for (int i = 0; i < text.length() || i % 20 != 0; i++) {
            int sign = i < text.length() ? text.charAt(i) : ' ';
            four[i / 4 % 5] = four[i / 4 % 5] << 8 | sign;
            if (i % 20 == 19) {
                x.feed(four[0], four[1], four[2], four[3], four[4]);
            }
        }
        x.end(end);
    }

    /** The helper above stands in README.md word for word. */
    private static void helperIsShown(List<String> page) throws IOException {
        List<String> own = Files.readAllLines(Path.of("src/test/java/ReadmeTest.java"));
        int from = own.indexOf("    static void tell(SecondHelpings x, String text) {");
        int at = page.indexOf("static void tell(SecondHelpings x, String text) {");
        Check.due("the helper is shown", from >= 0 && at >= 0, true);
        for (int i = 0; from >= 0 && at >= 0 && !page.get(at + i).equals("```"); i++) {
            Check.due("line " + (at + i + 1) + " of README.md", "    " + page.get(at + i), own.get(from + i));
        }
    }

    private static void makeCalls(List<String> page) throws ReflectiveOperationException {
        SecondHelpings x = new SecondHelpings();
        int made = 0;
        for (String line : page) {
            Matcher tells = TELLS.matcher(line);
            Matcher call = CALL.matcher(line);
            if (tells.matches()) {
                tell(x, tells.group(1));
                made++;
            } else if (call.matches()) {
                Object got = answer(x, call.group(1), call.group(2));
                Check.due(line, got.toString(), call.group(3) == null ? got.toString() : call.group(3));
                made++;
            } else {
                Check.due("a call that is not understood: " + line, line.startsWith("x."), false);
            }
        }
        Check.due("calls made: " + made, made >= CALLS_SHOWN, true);
    }

    private static Object answer(SecondHelpings x, String name, String written) throws ReflectiveOperationException {
        Object[] numbers = Arrays.stream(written.split(", *")).filter(n -> !n.isEmpty()).map(Integer::decode).toArray();
        Class<?>[] types = new Class<?>[numbers.length];
        Arrays.fill(types, int.class);
        Method method = SecondHelpings.class.getMethod(name, types);
        return method.invoke(x, numbers);
    }
}
