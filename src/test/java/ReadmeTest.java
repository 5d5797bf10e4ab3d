import java.io.File;
import java.io.IOException;
import java.lang.reflect.Method;
import java.lang.reflect.Modifier;
import java.nio.file.Files;
import java.nio.file.Path;
import java.util.HashMap;
import java.util.Map;
import java.util.regex.Matcher;
import java.util.regex.Pattern;

/** README.md tells the truth: its example is run line by line, and it names every call and test. */
public final class ReadmeTest {
    private static final Due due = new Due();
    private static final Pattern EXAMPLE = Pattern.compile("(?s)```java\\n(.*?)```");
    private static final Pattern CALL = Pattern.compile(
        "(?:int (\\w+) = )?kernel\\.(\\w+)\\((.*)\\);\\s*// (-?\\w+).*");
    private static final String MADE = "StackPolicyKernel kernel = new StackPolicyKernel();";

    public static void main(String[] args) throws ReflectiveOperationException, IOException {
        String readme = Files.readString(Path.of("README.md"));
        Map<String, Method> calls = publicCalls();
        example(readme, calls);
        namesEveryCall(readme, calls);
        namesEveryTest(readme);
        due.end();
    }

    private static Map<String, Method> publicCalls() {
        Map<String, Method> calls = new HashMap<>();
        for (Method m : StackPolicyKernel.class.getDeclaredMethods()) {
            if (Modifier.isPublic(m.getModifiers())) {
                calls.put(m.getName(), m);
            }
        }
        return calls;
    }

    private static void example(String readme, Map<String, Method> calls)
            throws ReflectiveOperationException {
        Matcher example = EXAMPLE.matcher(readme);
        boolean found = example.find();
        due.yes("there is an example", found);
        if (!found) {
            return;
        }
        String[] lines = example.group(1).split("\n");
        due.yes("it makes a kernel first", lines[0].equals(MADE));
        StackPolicyKernel kernel = new StackPolicyKernel();
        Map<String, Integer> numbers = new HashMap<>();
        for (int i = 1; i < lines.length; i++) {
            Matcher line = CALL.matcher(lines[i]);
            boolean read = line.matches() && calls.containsKey(line.group(2));
            due.yes("a call and its answer: " + lines[i], read);
            if (read) {
                int got = answer(kernel, calls.get(line.group(2)), line.group(3), numbers);
                due.is(lines[i], got, number(line.group(4), numbers));
                if (line.group(1) != null) {
                    numbers.put(line.group(1), got);
                }
            }
        }
    }

    private static int answer(StackPolicyKernel kernel, Method call, String arguments,
            Map<String, Integer> numbers) throws ReflectiveOperationException {
        String[] parts = arguments.isEmpty() ? new String[0] : arguments.split(", ");
        Object[] values = new Object[parts.length];
        for (int i = 0; i < parts.length; i++) {
            values[i] = number(parts[i], numbers);
        }
        Object got = call.invoke(kernel, values);
        return got instanceof Boolean ? ((Boolean) got ? 1 : 0) : (Integer) got;
    }

    /** A number, true or false as 1 or 0, a constant of the class, or a name of the example. */
    private static int number(String text, Map<String, Integer> numbers)
            throws ReflectiveOperationException {
        if (text.equals("true") || text.equals("false")) {
            return text.equals("true") ? 1 : 0;
        }
        if (numbers.containsKey(text)) {
            return numbers.get(text);
        }
        if (text.matches("[A-Z]+")) {
            return StackPolicyKernel.class.getField(text).getInt(null);
        }
        return Integer.parseInt(text);
    }

    private static void namesEveryCall(String readme, Map<String, Method> calls) {
        for (String name : calls.keySet()) {
            due.yes("README.md has a row for " + name, readme.contains("| `" + name + "("));
        }
    }

    private static void namesEveryTest(String readme) {
        for (String file : new File("src/test/java").list()) {
            if (file.endsWith("Test.java")) {
                String name = file.replace(".java", "");
                due.yes("README.md has a row for " + name, readme.contains("| `" + name + "` |"));
            }
        }
    }
}
