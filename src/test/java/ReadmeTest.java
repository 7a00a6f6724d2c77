import java.io.IOException;
import java.lang.reflect.InvocationTargetException;
import java.lang.reflect.Method;
import java.lang.reflect.Modifier;
import java.nio.file.Files;
import java.nio.file.Path;
import java.util.ArrayList;
import java.util.Arrays;
import java.util.List;
import java.util.regex.Matcher;
import java.util.regex.Pattern;

/** README.md tells the class as it is: its example answers what stands behind its calls, its table has every call. */
public final class ReadmeTest {
    /** A call of the example, and the answer with which its comment begins, if it does. */
    private static final Pattern STEP = Pattern.compile("x\\.(\\w+)\\(([^)]*)\\);(?: *// (\\d+):)?.*");
    private static final Pattern ROW = Pattern.compile("\\| `(\\w+ \\w+\\([^)]*\\))` \\|(.*)\\|(.*)\\|");
    private static final Pattern THROWN = Pattern.compile("\\b(IOOB|IA|IS|UO)\\b");

    private ReadmeTest() {
    }

    public static void main(String[] args) throws IOException, ReflectiveOperationException {
        List<String> lines = Files.readAllLines(Path.of("README.md"));
        example(lines);
        table(lines);
        saysHowToTest(lines);
        Check.end("ReadmeTest");
    }

    private static void example(List<String> lines) throws ReflectiveOperationException {
        QuotaDesk x = new QuotaDesk();
        int answers = 0;
        for (String line : lines) {
            Matcher step = STEP.matcher(line);
            if (step.matches()) {
                long got = call(x, step.group(1), step.group(2));
                if (step.group(3) != null) {
                    answers++;
                    Check.due("README: " + line, got, Long.parseLong(step.group(3)));
                }
            }
        }
        Check.due("README: the example tells answers", answers > 0, true);
    }

    /** A call of the example with numbers only. */
    private static long call(QuotaDesk x, String name, String numbers) throws ReflectiveOperationException {
        Object[] given = numbers.isEmpty()
                ? new Object[0] : Arrays.stream(numbers.split(", ")).map(Integer::valueOf).toArray();
        Class<?>[] types = new Class<?>[given.length];
        Arrays.fill(types, int.class);
        try {
            Object answer = QuotaDesk.class.getMethod(name, types).invoke(x, given);
            return answer == null ? 0 : ((Number) answer).longValue();
        } catch (InvocationTargetException thrown) {
            Check.fault("README: " + name + "(" + numbers + ") threw " + thrown.getCause());
            return QuotaDesk.NONE;
        }
    }

    private static void table(List<String> lines) {
        List<String> told = new ArrayList<>();
        for (String line : lines) {
            Matcher row = ROW.matcher(line);
            if (row.matches()) {
                Check.due("README: it says what this does: " + line, row.group(2).isBlank(), false);
                told.add(withoutNames(row.group(1)) + thrownBy(row.group(3)));
            }
        }
        int calls = 0;
        for (Method method : QuotaDesk.class.getDeclaredMethods()) {
            if (Modifier.isPublic(method.getModifiers())) {
                calls++;
                Check.due("README: the table has " + method, told.contains(seen(method)), true);
            }
        }
        Check.due("README: rows of the table", told.size(), calls);
    }

    private static String withoutNames(String call) {
        return call.replaceAll("(int|boolean) \\w+(?=[,)])", "$1");
    }

    private static String thrownBy(String cell) {
        StringBuilder all = new StringBuilder();
        Matcher thrown = THROWN.matcher(cell);
        while (thrown.find()) {
            all.append(' ').append(thrown.group());
        }
        return all.toString();
    }

    private static String seen(Method method) {
        StringBuilder all = new StringBuilder(method.getReturnType().getSimpleName() + " " + method.getName() + "(");
        for (Class<?> type : method.getParameterTypes()) {
            all.append(all.charAt(all.length() - 1) == '(' ? "" : ", ").append(type.getSimpleName());
        }
        all.append(')');
        for (Class<?> thrown : method.getExceptionTypes()) {
            // Told by its capitals: IndexOutOfBoundsException as IOOB.
            all.append(' ').append(thrown.getSimpleName().replaceAll("Exception|[a-z]", ""));
        }
        return all.toString();
    }

    private static void saysHowToTest(List<String> lines) {
        String all = String.join("\n", lines);
        for (String word : new String[] {"`.ci/run`", "../shared/tests", "512 calls", "new QuotaDesk()"}) {
            Check.due("README: it says " + word, all.contains(word), true);
        }
    }
}
