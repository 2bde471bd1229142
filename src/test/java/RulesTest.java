import java.io.IOException;
import java.lang.reflect.Field;
import java.lang.reflect.Method;
import java.lang.reflect.Modifier;
import java.nio.file.Files;
import java.nio.file.Path;
import java.util.ArrayList;
import java.util.List;
import java.util.Set;
import java.util.TreeSet;
import java.util.regex.Matcher;
import java.util.regex.Pattern;

/** The face of the class, and the rules of ../shared/LANGUAGE.md that reflection or a look at the source can tell. */
public final class RulesTest {
    private static final Path SOURCE = Path.of("src/main/java/BuyAsAsked.java");
    private static final String[] FACE = {"as 2", "ask 2", "call 1", "copy 5", "count 1", "covered 1", "covers 1",
        "day 1", "demand 1", "demands 3", "drop 1", "joins 1", "kind 1", "lease 2", "leases 1", "offer 2", "price 1",
        "set 3", "sheet 3", "site 0", "status 0", "told 2", "trace 1", "way 3"};
    private static final String[] KEPT_OUT = {"\\bthrow\\b", "\\bthrows\\b", "\\btry\\b", "\\bcatch\\b", "\\bfinally\\b",
        "\\bsynchronized\\b", "\\bassert\\b", "\\bimport\\b", "\\bpackage\\b", "->", "::", "\\bhashCode\\b",
        "\\btoString\\b", "\\bequals\\b", "Exact\\b", "\\bSystem\\.(?!arraycopy)", "\\bThread\\b", "\\bRandom\\b",
        "\\bObject\\b", "\\bvar\\b", "[^\\x00-\\x7f]"};
    private static final Set<String> CALLED = Set.of("Integer.bitCount", "Math.min", "Math.max", "System.arraycopy");

    public static void main(String[] args) throws IOException {
        face();
        constants();
        classesInside();
        names();
        String source = Files.readString(SOURCE).replaceAll("(?s)/\\*.*?\\*/", "").replaceAll("//.*", "");
        tokens(source);
        library(source);
        methodLengths(Files.readAllLines(SOURCE));
        Checks.end("RulesTest");
    }

    private static void holds(String rule, boolean held) {
        Checks.due(rule, held ? 1 : 0, 1);
    }

    private static void face() {
        Set<String> is = new TreeSet<>();
        for (Method method : BuyAsAsked.class.getDeclaredMethods()) {
            if (!Modifier.isPrivate(method.getModifiers())) {
                is.add(method.getName() + " " + method.getParameterCount());
                holds("1: " + method, method.getModifiers() == Modifier.PUBLIC && method.getReturnType() == int.class);
                for (Class<?> type : method.getParameterTypes()) {
                    holds("1: " + method, type == int.class);
                }
            }
        }
        holds("1: methods " + is, is.equals(new TreeSet<>(List.of(FACE))));
        holds("1: class", BuyAsAsked.class.getModifiers() == (Modifier.PUBLIC | Modifier.FINAL));
        holds("1: constructors", BuyAsAsked.class.getDeclaredConstructors().length == 1
            && BuyAsAsked.class.getConstructors().length == 1);
    }

    private static void constants() {
        Set<String> is = new TreeSet<>();
        for (Field field : BuyAsAsked.class.getDeclaredFields()) {
            if (!Modifier.isPrivate(field.getModifiers())) {
                is.add(field.getName());
                holds("1: " + field, field.getType() == int.class
                    && field.getModifiers() == (Modifier.PUBLIC | Modifier.STATIC | Modifier.FINAL));
            }
        }
        holds("1: constants " + is, is.equals(Set.of("NONE", "BAD", "STATE", "FULL")));
    }

    private static List<Class<?>> all() {
        List<Class<?>> classes = new ArrayList<>(List.of(BuyAsAsked.class.getDeclaredClasses()));
        classes.add(BuyAsAsked.class);
        return classes;
    }

    private static void classesInside() {
        holds("11: classes", all().size() <= 12);
        for (Class<?> inside : BuyAsAsked.class.getDeclaredClasses()) {
            holds("2: " + inside, Modifier.isStatic(inside.getModifiers()) && Modifier.isPrivate(inside.getModifiers()));
            holds("2: " + inside, inside.getDeclaredClasses().length == 0);
        }
        for (Class<?> one : all()) {
            int fields = 0;
            for (Field field : one.getDeclaredFields()) {
                boolean isStatic = Modifier.isStatic(field.getModifiers());
                fields += isStatic ? 0 : 1;
                holds("5: " + field, !isStatic || Modifier.isFinal(field.getModifiers()));
            }
            holds("11: fields of " + one, fields <= 20);
            for (Method method : one.getDeclaredMethods()) {
                holds("11: parameters of " + method, method.getParameterCount() <= 7);
            }
        }
    }

    private static void names() {
        Set<String> open = new TreeSet<>();
        for (String method : FACE) {
            open.add(method.substring(0, method.indexOf(' ')));
        }
        for (Class<?> one : all()) {
            for (Method method : one.getDeclaredMethods()) {
                boolean isOfTheFace = one == BuyAsAsked.class && Modifier.isPublic(method.getModifiers());
                holds("1: name of " + method, isOfTheFace || !open.contains(method.getName()));
            }
        }
    }

    private static void tokens(String source) {
        for (String token : KEPT_OUT) {
            holds("kept out: " + token, !Pattern.compile(token).matcher(source).find());
        }
    }

    private static void library(String source) {
        Matcher matcher = Pattern.compile("\\b[A-Z][a-z]\\w*\\.\\w+(?=\\()").matcher(source);
        while (matcher.find()) {
            holds("4: " + matcher.group(), CALLED.contains(matcher.group()));
        }
    }

    /** A method runs from a line that opens it to the closing brace as far in. */
    private static void methodLengths(List<String> lines) {
        for (int from = 0; from < lines.size(); from++) {
            String line = lines.get(from);
            if (line.matches(" {4,8}\\w.*\\) \\{")) {
                String end = line.substring(0, line.indexOf(line.trim())) + "}";
                int to = from;
                while (to < lines.size() && !lines.get(to).equals(end)) {
                    to++;
                }
                holds("11: length of " + line.trim(), to - from < 60);
            }
        }
    }
}
