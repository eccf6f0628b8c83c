import java.io.IOException;
import java.lang.reflect.InvocationTargetException;
import java.lang.reflect.Method;
import java.nio.file.Files;
import java.nio.file.Path;
import java.util.HashMap;
import java.util.HashSet;
import java.util.List;
import java.util.Map;
import java.util.Set;
import java.util.regex.Matcher;
import java.util.regex.Pattern;

/** README.md: each row of its Java blocks is made as a call, and answers what the row shows behind "//". */
public final class ReadmeTest {
    private static final Pattern OBJECT = Pattern.compile("SharedForks forks = new SharedForks\\(\\);");
    // A word on the answer may follow it behind a colon.
    private static final Pattern CALL =
            Pattern.compile("(?:int (\\w+) = )?forks\\.(\\w+)\\(([^()]*)\\);\\s+// ([^:]+)(?:: .+)?");

    private final Map<String, Integer> folds = new HashMap<>();
    private final Set<String> called = new HashSet<>();
    private SharedForks forks = new SharedForks();
    private int calls = 0;

    private ReadmeTest() {
    }

    public static void main(String[] args) throws IOException, ReflectiveOperationException {
        List<String> readme = Files.readAllLines(Path.of("README.md"));
        ReadmeTest test = new ReadmeTest();
        test.makeCalls(readme);
        test.everyMethodIsShown();
        everyTestIsNamed(readme);
        Check.end();
    }

    private void makeCalls(List<String> readme) throws ReflectiveOperationException {
        boolean isJava = false;
        for (String row : readme) {
            if (row.startsWith("```")) {
                isJava = row.equals("```java");
            } else if (isJava && !row.isEmpty()) {
                make(row);
            }
        }
        Check.same("no more than 512 calls", calls <= 512, true);
    }

    private void make(String row) throws ReflectiveOperationException {
        Matcher call = CALL.matcher(row);
        if (call.matches()) {
            Object answer = answer(call.group(2), call.group(3));
            Check.same("README: " + row, String.valueOf(answer), call.group(4));
            if (call.group(1) != null && answer instanceof Integer fold) {
                folds.put(call.group(1), fold);
            }
        } else {
            Check.same("README, object made by: " + row, OBJECT.matcher(row).matches(), true);
            forks = new SharedForks();
        }
    }

    /** What the call answers, or the name of what it throws. */
    private Object answer(String name, String texts) throws ReflectiveOperationException {
        String[] arguments = texts.isEmpty() ? new String[0] : texts.split(", ");
        Object[] given = new Object[arguments.length];
        for (int i = 0; i < given.length; i++) {
            given[i] = argument(arguments[i]);
        }
        calls++;
        called.add(name);
        try {
            return method(name).invoke(forks, given);
        } catch (InvocationTargetException e) {
            return e.getCause().getClass().getSimpleName();
        }
    }

    private Object argument(String text) {
        if (text.equals("true") || text.equals("false")) {
            return text.equals("true");
        }
        Integer fold = folds.get(text);
        return fold != null ? fold : Integer.valueOf(text);
    }

    private static Method method(String name) throws NoSuchMethodException {
        for (Method method : SharedForks.class.getDeclaredMethods()) {
            if (method.getName().equals(name)) {
                return method;
            }
        }
        throw new NoSuchMethodException(name);
    }

    private void everyMethodIsShown() {
        for (String name : List.of("leaf", "ask", "join", "choose", "given", "without", "drop", "swap", "order",
                "says", "fork", "about", "asked", "compare", "count", "has", "advise", "would", "mean", "digest")) {
            Check.same("README shows " + name, called.contains(name), true);
        }
    }

    private static void everyTestIsNamed(List<String> readme) throws IOException {
        String text = String.join("\n", readme);
        try (var files = Files.list(Path.of("src/test/java"))) {
            for (Path file : files.sorted().toList()) {
                String name = file.getFileName().toString().replace(".java", "");
                Check.same("README names " + name, text.contains("`" + name + "`"), true);
            }
        }
    }
}
