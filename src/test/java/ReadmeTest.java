import java.lang.reflect.Method;
import java.nio.file.Files;
import java.nio.file.Path;
import java.util.regex.Matcher;
import java.util.regex.Pattern;

/** The calls that README.md shows answer what it says behind them. */
public final class ReadmeTest extends Calls {
    private static final Pattern MADE = Pattern.compile("SpeckValves x = new SpeckValves\\(\\);.*");
    private static final Pattern WRITTEN = Pattern.compile("for \\(char letter : \"(.*)\"\\.toCharArray.*");
    private static final Pattern CALLED = Pattern.compile("x\\.(\\w+)\\(([^)]*)\\); *// (-?\\d+): .*");
    private static final Pattern ANY_CALL = Pattern.compile("x\\..*");
    private static final int LEAST_CALLS = 15;

    public static void main(String[] args) throws Exception {
        answers.about("README.md");
        SpeckValves x = new SpeckValves();
        int calls = 0;
        for (String row : Files.readAllLines(Path.of("README.md"))) {
            Matcher called = CALLED.matcher(row);
            Matcher written = WRITTEN.matcher(row);
            if (MADE.matcher(row).matches()) {
                x = new SpeckValves();
            } else if (written.matches()) {
                add(x, written.group(1));
            } else if (called.matches()) {
                answers.due(row, answerOf(x, called.group(1), called.group(2)), Long.parseLong(called.group(3)));
                calls++;
            } else {
                // A row that this test can't read would go untested without a word.
                answers.due("without an answer: " + row, ANY_CALL.matcher(row).matches() ? 1 : 0, 0);
            }
        }
        answers.due("calls are shown", calls >= LEAST_CALLS ? 1 : 0, 1);
        answers.end();
    }

    private static long answerOf(SpeckValves x, String name, String numbers) throws Exception {
        String[] each = numbers.isEmpty() ? new String[0] : numbers.split(", ");
        for (Method method : SpeckValves.class.getMethods()) {
            if (method.getName().equals(name) && method.getParameterCount() == each.length) {
                return ((Number) method.invoke(x, valuesOf(each, method.getParameterTypes()))).longValue();
            }
        }
        answers.due("there is no such call: " + name, 1, 0);
        return 0;
    }

    private static Object[] valuesOf(String[] each, Class<?>[] types) {
        Object[] values = new Object[each.length];
        for (int i = 0; i < each.length; i++) {
            values[i] = types[i] == long.class ? (Object) Long.valueOf(each[i]) : (Object) Integer.valueOf(each[i]);
        }
        return values;
    }
}
