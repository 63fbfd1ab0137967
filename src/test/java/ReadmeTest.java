import java.io.IOException;
import java.lang.reflect.InvocationTargetException;
import java.lang.reflect.Method;
import java.nio.file.Files;
import java.nio.file.Path;
import java.util.Arrays;
import java.util.regex.Matcher;
import java.util.regex.Pattern;

/** The calls that stand in README.md answer what stands behind them. */
public final class ReadmeTest {
    private static final Pattern PUT = Pattern.compile("put\\(x, \"(.*)\"\\);");
    private static final Pattern CALL = Pattern.compile("x\\.(\\w+)\\((.*?)\\); +// (throws \\w+|[\\w-]+).*");

    private static PromiseTrees x = null;
    private static int calls = 0;

    public static void main(String[] args) throws IOException, IllegalAccessException {
        for (String line : Files.readAllLines(Path.of(System.getProperty("readme", "README.md")))) {
            Matcher put = PUT.matcher(line);
            Matcher call = CALL.matcher(line);
            if (line.equals("PromiseTrees x = new PromiseTrees();")) {
                x = new PromiseTrees();
            } else if (put.matches()) {
                put(x, put.group(1));
            } else if (call.matches()) {
                calls++;
                String got = answer(call.group(1), call.group(2));
                Check.due(line + " (it answered " + got + ")", got.equals(call.group(3)), true);
            } else {
                Check.due("a call without its answer: " + line, line.startsWith("x."), false);
            }
        }
        Check.due("there are calls in README.md", calls > 40, true);
        Check.close();
    }

    // word by word as in README.md
    static void put(PromiseTrees x, String text) {
        int[] five = new int[5];
        for (int i = 0; i < text.length(); i += 20) {
            for (int k = 0; k < 20; k++) {
                int sign = i + k < text.length() ? text.charAt(i + k) : 0;
                five[k / 4] = five[k / 4] << 8 | sign;
            }
            x.feed(five[0], five[1], five[2], five[3], five[4]);
        }
        x.end(text.length());
    }

    private static String answer(String name, String row) throws IllegalAccessException {
        Object[] numbers = Arrays.stream(row.split(", ")).filter(n -> !n.isEmpty())
            .map(n -> n.equals("PromiseTrees.NONE") ? PromiseTrees.NONE : Integer.decode(n)).toArray();
        for (Method m : PromiseTrees.class.getMethods()) {
            if (m.getName().equals(name) && m.getParameterCount() == numbers.length) {
                try {
                    Object got = m.invoke(x, numbers);
                    return got.equals(PromiseTrees.NONE) ? "NONE" : got.toString();
                } catch (InvocationTargetException e) {
                    return "throws " + e.getCause().getClass().getSimpleName();
                }
            }
        }
        return "no such call";
    }
}
