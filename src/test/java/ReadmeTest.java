import java.io.IOException;
import java.io.UncheckedIOException;
import java.lang.reflect.InvocationTargetException;
import java.lang.reflect.Method;
import java.lang.reflect.Modifier;
import java.nio.file.Files;
import java.nio.file.Path;
import java.util.Arrays;
import java.util.List;
import java.util.Set;
import java.util.TreeSet;
import java.util.regex.Matcher;
import java.util.regex.Pattern;
import java.util.stream.Collectors;

/** README.md tells every call of the class, and its example answers as it says. */
public final class ReadmeTest {
    private static final Pattern CALL = Pattern.compile("desk\\.(\\w+)\\(([^)]*)\\);\\s*// (.*)");
    private static final Pattern ANSWER = Pattern.compile("(-?\\d+|throws \\w+)(:.*)?");
    private static final String NO_ANSWER = "";

    private static final ExchangeDesk desk = new ExchangeDesk();
    private static final Set<String> shown = new TreeSet<>();

    public static void main(String[] args) {
        Check.sentence("README.md, its example", ReadmeTest::example);
        Check.sentence("README.md, its table of calls", ReadmeTest::table);
        Check.end();
    }

    private static List<String> readme() {
        try {
            return Files.readAllLines(Path.of("README.md"));
        } catch (IOException e) {
            throw new UncheckedIOException(e);
        }
    }

    private static void example() {
        for (String line : readme()) {
            if (line.startsWith("desk.")) {
                Matcher call = CALL.matcher(line);
                Check.holds("a call and its answer: " + line, call.matches());
                answersAsItSays(call);
            }
        }
        Check.holds("every call is shown: " + shown, shown.equals(
                calls().stream().map(Method::getName).collect(Collectors.toSet())));
    }

    private static void answersAsItSays(Matcher call) {
        Matcher told = ANSWER.matcher(call.group(3));
        String want = told.matches() ? told.group(1) : NO_ANSWER;
        String got = answer(call.group(1), call.group(2).split(", "));
        Check.holds(call.group() + " (it answered " + got + ")", got.equals(want));
        shown.add(call.group(1));
    }

    private static String answer(String name, String[] words) {
        Method method = calls().stream().filter(one -> one.getName().equals(name)).findFirst().orElseThrow();
        try {
            Object got = method.invoke(desk, Arrays.stream(words).map(ReadmeTest::argument).toArray());
            return got == null ? NO_ANSWER : got.toString();
        } catch (InvocationTargetException e) {
            return "throws " + e.getCause().getClass().getSimpleName();
        } catch (IllegalAccessException e) {
            throw new IllegalStateException(e);
        }
    }

    private static Object argument(String word) {
        if (word.equals("true") || word.equals("false")) {
            return Boolean.valueOf(word);
        }
        return Integer.valueOf(word);
    }

    private static List<Method> calls() {
        return Arrays.stream(ExchangeDesk.class.getDeclaredMethods())
                .filter(one -> Modifier.isPublic(one.getModifiers()))
                .toList();
    }

    private static void table() {
        List<String> lines = readme();
        for (Method method : calls()) {
            String head = "| `" + method.getReturnType() + " " + method.getName() + "(";
            Check.holds("a row for " + method.getName(), lines.stream().anyMatch(line -> line.startsWith(head)));
        }
    }
}
