import java.lang.reflect.InvocationTargetException;
import java.lang.reflect.Method;
import java.nio.charset.StandardCharsets;
import java.nio.file.Files;
import java.nio.file.Path;
import java.util.regex.Matcher;
import java.util.regex.Pattern;

/** The calls of README.md, line by line: each must answer what stands behind it. */
public final class ReadmeTest {
    private static final Check CHECK = new Check();
    private static final Pattern MADE = Pattern.compile("TurnedBonds x = new TurnedBonds\\(\\);.*");
    private static final Pattern FED = Pattern.compile("feedText\\(x, \"(.*)\"\\);");
    private static final Pattern CALLED = Pattern.compile("x\\.(\\w+)\\((.*)\\); *// (-?\\d+|true|false)\\b.*");

    private static Object argument(String word, Class<?> type) {
        if (type == boolean.class) {
            return Boolean.valueOf(word);
        }
        return type == long.class ? (Object) Long.valueOf(word) : (Object) Integer.valueOf(word);
    }

    private static Method methodOf(String name) {
        for (Method method : TurnedBonds.class.getMethods()) {
            if (method.getName().equals(name) && method.getDeclaringClass() == TurnedBonds.class) {
                return method;
            }
        }
        throw new IllegalStateException("README.md calls " + name);
    }

    private static String answer(TurnedBonds x, String name, String arguments)
            throws IllegalAccessException, InvocationTargetException {
        Method method = methodOf(name);
        String[] words = arguments.isEmpty() ? new String[0] : arguments.split(", ");
        Object[] given = new Object[words.length];
        for (int i = 0; i < words.length; i++) {
            given[i] = argument(words[i], method.getParameterTypes()[i]);
        }
        return method.invoke(x, given).toString();
    }

    private static void runCalls(String block) throws IllegalAccessException, InvocationTargetException {
        TurnedBonds x = new TurnedBonds();
        for (String line : block.split("\n")) {
            Matcher fed = FED.matcher(line);
            Matcher called = CALLED.matcher(line);
            if (fed.matches()) {
                Check.feed(x, fed.group(1));
            } else if (called.matches()) {
                String got = answer(x, called.group(1), called.group(2));
                CHECK.holds(line + " answered " + got, got.equals(called.group(3)));
            } else {
                CHECK.holds("can't be read: " + line, line.isEmpty() || MADE.matcher(line).matches());
            }
        }
    }

    private static void tableHasAllCalls(String readme) {
        for (Method method : TurnedBonds.class.getDeclaredMethods()) {
            String name = method.getName();
            boolean told = readme.lines().anyMatch(line -> line.startsWith("| ") && line.contains("`" + name + "`"));
            CHECK.holds(name + " stands in the table", told || !java.lang.reflect.Modifier.isPublic(method.getModifiers()));
        }
    }

    public static void main(String[] args) throws Exception {
        String readme = Files.readString(Path.of("README.md"), StandardCharsets.UTF_8);
        Matcher block = Pattern.compile("(?s)```java\n(.*?)```").matcher(readme);
        CHECK.holds("README.md has calls", block.find());
        runCalls(block.group(1));
        tableHasAllCalls(readme);
        CHECK.close();
    }
}
