import java.io.IOException;
import java.lang.reflect.Method;
import java.nio.file.Files;
import java.nio.file.Path;
import java.util.Set;
import java.util.TreeSet;
import java.util.regex.Matcher;
import java.util.regex.Pattern;

/** README.md: each call of its example answers what stands behind it, and it names every call. */
public final class ReadmeTest {
    private static final Check CHECK = new Check("ReadmeTest");
    private static final Pattern ROW =
            Pattern.compile("bed\\.(\\w+)\\(([^)]*)\\);\\s*// (-?\\d+)\\b.*");

    public static void main(String[] args) throws IOException, ReflectiveOperationException {
        String text = Files.readString(Path.of(System.getProperty("project", "."), "README.md"));
        example(text);
        allCallsAreNamed(text);
        CHECK.end();
    }

    private static void example(String text) throws ReflectiveOperationException {
        BorderThroughBed bed = new BorderThroughBed();
        for (String row : text.split("\n")) {
            if (row.startsWith("bed.")) {
                Matcher parts = ROW.matcher(row);
                CHECK.due("a call with its answer: " + row, parts.matches() ? 1 : 0, 1);
                if (parts.matches()) {
                    CHECK.due(row, answer(bed, parts.group(1), parts.group(2)),
                            Long.parseLong(parts.group(3)));
                }
            }
        }
        CHECK.due("calls of the example", bed.count(7), 1);
    }

    private static long answer(BorderThroughBed bed, String name, String told)
            throws ReflectiveOperationException {
        Method method = methodOf(name);
        Class<?>[] types = method.getParameterTypes();
        String[] numbers = told.isEmpty() ? new String[0] : told.split(", ");
        Object[] arguments = new Object[numbers.length];
        for (int i = 0; i < numbers.length; i++) {
            long number = Long.decode(numbers[i].replace("L", ""));
            if (types[i] == long.class) {
                arguments[i] = number;
            } else {
                arguments[i] = (int) number;
            }
        }
        return ((Number) method.invoke(bed, arguments)).longValue();
    }

    private static Method methodOf(String name) throws NoSuchMethodException {
        for (Method method : BorderThroughBed.class.getMethods()) {
            if (method.getName().equals(name)) {
                return method;
            }
        }
        throw new NoSuchMethodException(name);
    }

    private static void allCallsAreNamed(String text) {
        Set<String> missing = new TreeSet<>();
        for (Method method : BorderThroughBed.class.getMethods()) {
            boolean isOwn = method.getDeclaringClass() == BorderThroughBed.class;
            if (isOwn && !text.contains("`" + method.getName() + "`")) {
                missing.add(method.getName());
            }
        }
        CHECK.due("calls that it does not name: " + missing, missing.size(), 0);
    }
}
