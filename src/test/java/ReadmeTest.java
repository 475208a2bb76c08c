import java.io.IOException;
import java.lang.reflect.InvocationTargetException;
import java.lang.reflect.Method;
import java.nio.file.Files;
import java.nio.file.Path;
import java.util.regex.Matcher;
import java.util.regex.Pattern;

/** Makes the calls of README.md's example and looks at the answers that it tells behind them. */
public final class ReadmeTest {
    private static final Pattern ROW = Pattern.compile("x\\.(\\w+)\\((.*?)\\);\\s*// ([-\\w]+): (.*)");
    private static final Pattern OUT = Pattern.compile(".*OUT is \"(.*)\".*");
    private static final Pattern FED = Pattern.compile("\"(.*)\".*");

    private ReadmeTest() {
    }

    public static void main(String[] args) throws IOException, ReflectiveOperationException {
        ThreeMills x = new ThreeMills();
        int rows = 0;
        for (String line : Files.readAllLines(Path.of("README.md"))) {
            Matcher row = ROW.matcher(line);
            if (row.matches()) {
                rows++;
                Calls.due(line, call(x, row.group(1), row.group(2)), row.group(3));
                lookAtOut(x, line, row.group(4));
                if (row.group(1).equals("feed")) {
                    lookAtFed(line, row.group(2), row.group(4));
                }
            } else if (line.startsWith("x.")) {
                Calls.due("a row without an answer", line, "");
            }
        }
        Calls.due("rows", rows, 22);
        Calls.end("ReadmeTest");
    }

    /** What the call answers, or the name of what it throws. */
    private static String call(ThreeMills x, String name, String given) throws ReflectiveOperationException {
        String[] numbers = given.isEmpty() ? new String[0] : given.split(", ");
        Class<?>[] kinds = new Class<?>[numbers.length];
        Object[] values = new Object[numbers.length];
        for (int i = 0; i < numbers.length; i++) {
            kinds[i] = int.class;
            values[i] = Integer.decode(numbers[i]);
        }
        Method method = ThreeMills.class.getMethod(name, kinds);
        try {
            return method.invoke(x, values).toString();
        } catch (InvocationTargetException e) {
            return e.getCause().getClass().getSimpleName();
        }
    }

    private static void lookAtOut(ThreeMills x, String line, String told) {
        Matcher out = OUT.matcher(told);
        if (out.matches()) {
            Calls.due(line, Calls.out(x), out.group(1).replace("\\n", "\n"));
        }
    }

    private static void lookAtFed(String line, String given, String told) {
        StringBuilder bytes = new StringBuilder();
        for (String number : given.split(", ")) {
            int word = Integer.decode(number);
            for (int shift = 24; shift >= 0; shift -= 8) {
                bytes.append((char) (word >> shift & 255));
            }
        }
        Matcher fed = FED.matcher(told);
        String text = fed.matches() ? fed.group(1) : "";
        Calls.due(line, bytes.toString().stripTrailing(), text.stripTrailing());
    }
}
