import java.io.IOException;
import java.lang.reflect.Method;
import java.nio.file.Files;
import java.nio.file.Path;
import java.util.HashMap;
import java.util.List;
import java.util.Map;
import java.util.regex.Matcher;
import java.util.regex.Pattern;

/**
 * Makes the calls of README.md in their order. Where what stands behind a call begins with an answer
 * and a colon ('// 2: it was the ack'), that must be its answer.
 */
public final class ReadmeTest {
    private static final Pattern MADE = Pattern.compile("QuietWatch (\\w+) = new QuietWatch\\((\\d+)\\);.*");
    private static final Pattern CALL = Pattern.compile("(\\w+)\\.(\\w+)\\(([^()]*)\\);(?:\\s*// (.*))?");
    private static final Pattern ANSWER = Pattern.compile("(-?\\d+|true|false): .*");

    private static final Map<String, QuietWatch> objects = new HashMap<>();
    private static int answers = 0;
    private static int wrong = 0;

    private static void complain(String what) {
        wrong++;
        System.out.println(what);
    }

    private static int number(String text) {
        String[] shifted = text.trim().split(" << ");
        int value = Integer.parseInt(shifted[0]);
        return shifted.length == 1 ? value : value << Integer.parseInt(shifted[1]);
    }

    private static Object[] numbers(String text) {
        if (text.isBlank()) {
            return new Object[0];
        }
        String[] parts = text.split(",");
        Object[] numbers = new Object[parts.length];
        for (int i = 0; i < parts.length; i++) {
            numbers[i] = number(parts[i]);
        }
        return numbers;
    }

    private static String answerOf(QuietWatch x, String name, Object[] arguments) throws ReflectiveOperationException {
        for (Method method : QuietWatch.class.getMethods()) {
            if (method.getName().equals(name) && method.getParameterCount() == arguments.length) {
                return String.valueOf(method.invoke(x, arguments));
            }
        }
        return "that there is no such method";
    }

    private static void follow(String line) throws ReflectiveOperationException {
        Matcher made = MADE.matcher(line);
        if (made.matches()) {
            objects.put(made.group(1), new QuietWatch(number(made.group(2))));
            return;
        }
        Matcher call = CALL.matcher(line);
        if (!call.matches() || !objects.containsKey(call.group(1))) {
            complain("not understood: " + line);
            return;
        }
        String got = answerOf(objects.get(call.group(1)), call.group(2), numbers(call.group(3)));
        Matcher answer = ANSWER.matcher(call.group(4) == null ? "" : call.group(4));
        if (answer.matches()) {
            answers++;
            if (!answer.group(1).equals(got)) {
                complain(line + " answered " + got);
            }
        }
    }

    public static void main(String[] args) throws IOException, ReflectiveOperationException {
        List<String> lines = Files.readAllLines(Path.of("README.md"));
        boolean inCode = false;
        for (String line : lines) {
            if (line.startsWith("```")) {
                inCode = line.equals("```java");
            } else if (inCode && !line.isBlank()) {
                follow(line);
            }
        }
        if (answers == 0) {
            complain("README.md tells no answer");
        }
        System.out.println(wrong == 0 ? answers + " answers of README.md are as due" : wrong + " lines of README.md are not as due");
        if (wrong != 0) {
            System.exit(1);
        }
    }
}
