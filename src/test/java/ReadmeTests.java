import java.lang.reflect.Method;
import java.nio.file.Files;
import java.nio.file.Path;
import java.util.TreeMap;
import java.util.regex.Matcher;
import java.util.regex.Pattern;

/** README.md: the calls of its example answer what stands behind them, and it names every call of the face. */
public final class ReadmeTests {
    private static final Pattern CALL = Pattern.compile("x\\.(\\w+)\\((.*)\\); +// (-?\\d+): .*");
    private static final String MADE = "IceType x = new IceType();";

    private static int answers = 0;
    private static int wrong = 0;

    private static void expect(boolean good, String what) {
        if (!good) {
            wrong++;
            System.out.println("README.md: " + what);
        }
    }

    private static TreeMap<String, Method> face() {
        TreeMap<String, Method> face = new TreeMap<>();
        for (Method method : IceType.class.getMethods()) {
            if (method.getDeclaringClass() == IceType.class) {
                face.put(method.getName(), method);
            }
        }
        return face;
    }

    private static Object argument(String written, Class<?> type) {
        if (type == long.class) {
            return Long.decode(written.endsWith("L") ? written.substring(0, written.length() - 1) : written);
        }
        return Integer.decode(written);
    }

    private static void call(IceType x, Method method, Matcher line) throws ReflectiveOperationException {
        String[] written = line.group(2).isEmpty() ? new String[0] : line.group(2).split(", ");
        Class<?>[] types = method.getParameterTypes();
        if (written.length != types.length) {
            expect(false, line.group() + " has not as many numbers as the call takes");
            return;
        }
        Object[] arguments = new Object[types.length];
        for (int i = 0; i < types.length; i++) {
            arguments[i] = argument(written[i], types[i]);
        }
        Object got = method.invoke(x, arguments);
        answers++;
        expect(got.equals(Integer.valueOf(line.group(3))), line.group() + " answered " + got);
    }

    private static void example(String block) throws ReflectiveOperationException {
        IceType x = new IceType();
        for (String line : block.strip().split("\n")) {
            Matcher found = CALL.matcher(line);
            if (!found.matches()) {
                expect(line.equals(MADE), line + " is no call with an answer");
                continue;
            }
            Method method = face().get(found.group(1));
            expect(method != null, line + " is no call of the face");
            if (method != null) {
                call(x, method, found);
            }
        }
    }

    private static String inside(String page, String from, String to) {
        int start = page.indexOf(from);
        int end = start < 0 ? -1 : page.indexOf(to, start + from.length());
        expect(end >= 0, "nothing stands from " + from.strip() + " to " + to.strip());
        return end < 0 ? "" : page.substring(start + from.length(), end);
    }

    public static void main(String[] args) throws Exception {
        Path source = Path.of(args.length > 0 ? args[0] : "src/main/java/IceType.java").toAbsolutePath();
        String page = Files.readString(source.resolve("../../../../README.md").normalize());
        example(inside(page, "```java\n", "```"));
        expect(answers > 0, "the example has no calls");
        String calls = inside(page, "## Calls\n", "\n## ");
        for (String name : face().keySet()) {
            expect(calls.contains("`" + name + "("), name + " has no line");
        }
        System.out.println(answers + " answers of the example, " + face().size() + " calls, " + wrong + " not as due");
        if (wrong != 0) {
            System.exit(1);
        }
    }
}
