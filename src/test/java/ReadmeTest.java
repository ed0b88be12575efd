import java.io.IOException;
import java.lang.reflect.InvocationTargetException;
import java.lang.reflect.Method;
import java.nio.file.Files;
import java.nio.file.Path;
import java.util.List;
import java.util.regex.Matcher;
import java.util.regex.Pattern;

/**
 * README.md, read where the tests are run: it has a row for each call of the class that tells what is
 * refused, and each call of its example answers, or throws, what stands behind it.
 */
public final class ReadmeTest {
    private static final Pattern EXAMPLE = Pattern.compile("x\\.(\\w+)\\(([-\\d, ]*)\\);\\s+// (\\S+)");

    private static int wrong = 0;

    private static void due(String what, Object want, Object got) {
        if (!want.equals(got)) {
            wrong++;
            System.out.println(what + ": " + got + ", due is " + want);
        }
    }

    private static String rowOf(List<String> lines, Method call) {
        String begin = "| `" + call.getReturnType().getSimpleName() + " " + call.getName() + "(";
        for (String line : lines) {
            if (line.startsWith(begin)) {
                return line;
            }
        }
        return "";
    }

    private static boolean tells(String row, Method call, String word, Class<?> thrown) {
        return row.contains("*" + word + "*") == List.of(call.getExceptionTypes()).contains(thrown);
    }

    private static void rows(List<String> lines) {
        for (Method call : CornerCube.class.getMethods()) {
            if (call.getDeclaringClass() != CornerCube.class) {
                continue;
            }
            String row = rowOf(lines, call);
            due("a row for " + call.getName(), true, !row.isEmpty());
            due("arguments of " + call.getName(), call.getParameterCount(), row.split("int [a-z]+[,)]", -1).length - 1);
            due("index of " + call.getName(), true, tells(row, call, "index", IndexOutOfBoundsException.class));
            due("argument of " + call.getName(), true, tells(row, call, "argument", IllegalArgumentException.class));
            due("state of " + call.getName(), true, tells(row, call, "state", IllegalStateException.class));
            due("nothing of " + call.getName(), call.getExceptionTypes().length == 0, row.endsWith("| nothing |"));
        }
    }

    private static Object[] numbersOf(String text) {
        if (text.isEmpty()) {
            return new Object[0];
        }
        String[] parts = text.split(", ");
        Object[] numbers = new Object[parts.length];
        for (int i = 0; i < parts.length; i++) {
            numbers[i] = Integer.valueOf(parts[i]);
        }
        return numbers;
    }

    private static String answerOf(CornerCube x, String name, Object[] arguments) throws IllegalAccessException {
        for (Method call : CornerCube.class.getMethods()) {
            if (call.getName().equals(name) && call.getParameterCount() == arguments.length) {
                try {
                    return String.valueOf(call.invoke(x, arguments));
                } catch (InvocationTargetException e) {
                    return e.getCause().getClass().getSimpleName();
                }
            }
        }
        return "no such call";
    }

    private static void example(List<String> lines) throws IllegalAccessException {
        CornerCube x = new CornerCube();
        int calls = 0;
        for (String line : lines) {
            Matcher call = EXAMPLE.matcher(line);
            if (call.matches()) {
                calls++;
                due(line, call.group(3), answerOf(x, call.group(1), numbersOf(call.group(2))));
            } else {
                due("a line of the example that is no call: " + line, false, line.startsWith("x."));
            }
        }
        due("an example", true, calls > 0);
    }

    public static void main(String[] args) throws IOException, IllegalAccessException {
        List<String> lines = Files.readAllLines(Path.of("README.md"));
        rows(lines);
        example(lines);
        System.out.println(wrong == 0 ? "README.md tells what is so" : wrong + " faults of README.md");
        if (wrong != 0) {
            System.exit(1);
        }
    }
}
