import java.io.IOException;
import java.lang.reflect.Method;
import java.lang.reflect.Modifier;
import java.nio.file.Files;
import java.nio.file.Path;
import java.util.List;
import java.util.regex.Matcher;
import java.util.regex.Pattern;

/** The examples of README.md: each line's call answers the number, or the constant, that its comment begins with. */
public final class ReadmeTest {
    private static final Path README = Path.of("README.md");
    private static final String MADE = "BuyAsAsked x = new BuyAsAsked();";
    private static final Pattern LINE = Pattern.compile("x\\.(\\w+)\\(([\\w, ]*)\\); +// (-?\\d+|[A-Z]+)(:.*)?");

    private static BuyAsAsked x = null;

    public static void main(String[] args) throws IOException, ReflectiveOperationException {
        List<String> lines = Files.readAllLines(README);
        examples(lines);
        names(String.join("\n", lines));
        Checks.end("ReadmeTest");
    }

    private static void examples(List<String> lines) throws ReflectiveOperationException {
        boolean isExample = false;
        int many = 0;
        for (String line : lines) {
            if (line.startsWith("```")) {
                isExample = line.equals("```java");
                x = null;
            } else if (isExample && line.equals(MADE)) {
                x = new BuyAsAsked();
            } else if (isExample) {
                example(line);
                many++;
            }
        }
        Checks.due("there are examples", many > 0 ? 1 : 0, 1);
    }

    private static void example(String line) throws ReflectiveOperationException {
        Matcher matcher = LINE.matcher(line);
        if (x == null || !matcher.matches()) {
            Checks.same(line, "no example", "a call and what it answers");
            return;
        }
        String[] numbers = matcher.group(2).isEmpty() ? new String[0] : matcher.group(2).split(", ");
        Class<?>[] types = new Class<?>[numbers.length];
        Object[] given = new Object[numbers.length];
        for (int k = 0; k < numbers.length; k++) {
            types[k] = int.class;
            given[k] = number(numbers[k]);
        }
        int got = (int) BuyAsAsked.class.getMethod(matcher.group(1), types).invoke(x, given);
        Checks.due("README: " + line, got, number(matcher.group(3)));
    }

    private static int number(String text) throws ReflectiveOperationException {
        if (Character.isUpperCase(text.charAt(0))) {
            return BuyAsAsked.class.getField(text).getInt(null);
        }
        return text.startsWith("0b") ? Integer.parseInt(text.substring(2), 2) : Integer.parseInt(text);
    }

    private static void names(String readme) {
        for (Method method : BuyAsAsked.class.getDeclaredMethods()) {
            if (Modifier.isPublic(method.getModifiers())) {
                String name = "`" + method.getName() + "`";
                Checks.due("README names " + name, readme.contains(name) ? 1 : 0, 1);
            }
        }
    }
}
