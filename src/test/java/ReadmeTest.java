import java.io.IOException;
import java.lang.reflect.InvocationTargetException;
import java.lang.reflect.Method;
import java.lang.reflect.Modifier;
import java.nio.file.Files;
import java.nio.file.Path;
import java.util.Arrays;
import java.util.HashMap;
import java.util.List;
import java.util.Map;
import java.util.regex.Matcher;
import java.util.regex.Pattern;

/** README.md names every method and every exception of the face, and its examples hold. */
public final class ReadmeTest {
    private static final Pattern MADE =
            Pattern.compile("AdventureParser (\\w+) = new AdventureParser\\(\\);");
    private static final Pattern CALL =
            Pattern.compile("(\\w+)\\.(\\w+)\\(([-\\d, ]*)\\); *// (?:throws (\\w+)|(-?\\d+)): .*");
    private static final Pattern ROW = Pattern.compile("\\| `(\\w+)` \\| `(\\w+)` \\| .+ \\|");

    public static void main(String[] args) throws IOException {
        String page = Files.readString(Path.of("README.md"));
        namesMethods(page);
        namesExceptions(page.lines().toList());
        examplesHold(page.lines().toList());
        Check.due("the command that runs all tests", page.contains("\n.ci/run\n"), true);
        Check.due("that command can be run", Files.isExecutable(Path.of(".ci/run")), true);
        namesTests(page);
        Check.finish("ReadmeTest");
    }

    private static void namesMethods(String page) {
        for (Method method : AdventureParser.class.getDeclaredMethods()) {
            if (Modifier.isPublic(method.getModifiers())) {
                Pattern named = Pattern.compile("`" + method.getName() + "\\(([^)]*)\\)`");
                Matcher matcher = named.matcher(page);
                boolean found = matcher.find();
                Check.due(method.getName() + " is named", found, true);
                if (found) {
                    String list = matcher.group(1);
                    Check.due("arguments of " + method.getName(),
                            list.isEmpty() ? 0 : list.split(",").length, method.getParameterCount());
                }
            }
        }
    }

    /** The rows of the exceptions are those of the face, and in its order. */
    private static void namesExceptions(List<String> lines) {
        Map<String, String> told = new HashMap<>();
        for (String line : lines) {
            Matcher row = ROW.matcher(line);
            if (row.matches()) {
                told.merge(row.group(1), row.group(2), (first, second) -> first + " " + second);
            }
        }
        Map<String, String> due = new HashMap<>();
        for (Method method : AdventureParser.class.getDeclaredMethods()) {
            for (Class<?> thrown : method.getExceptionTypes()) {
                due.merge(method.getName(), thrown.getSimpleName(),
                        (first, second) -> first + " " + second);
            }
        }
        Check.due("exceptions " + told + ", due are " + due, told.equals(due), true);
    }

    private static void examplesHold(List<String> lines) {
        Map<String, AdventureParser> made = new HashMap<>();
        boolean inside = false;
        int calls = 0;
        for (String line : lines) {
            if (line.startsWith("```")) {
                inside = line.equals("```java");
            } else if (inside) {
                calls += exampleHolds(line, made);
            }
        }
        Check.due("there are examples", calls >= 20, true);
    }

    private static int exampleHolds(String line, Map<String, AdventureParser> made) {
        Matcher making = MADE.matcher(line);
        if (making.matches()) {
            made.put(making.group(1), new AdventureParser());
            return 0;
        }
        Matcher call = CALL.matcher(line);
        boolean readable = call.matches() && made.containsKey(call.group(1));
        Check.due("can be read: " + line, readable, true);
        if (readable) {
            String due = call.group(4) != null ? call.group(4) : call.group(5);
            String answer = answer(made.get(call.group(1)), call.group(2), call.group(3));
            Check.due(line + " answered " + answer, answer.equals(due), true);
        }
        return 1;
    }

    private static String answer(AdventureParser p, String name, String list) {
        Object[] arguments = list.isEmpty() ? new Object[0]
                : Arrays.stream(list.split(",")).map(word -> Integer.valueOf(word.trim())).toArray();
        Class<?>[] types = new Class<?>[arguments.length];
        Arrays.fill(types, int.class);
        try {
            return String.valueOf(AdventureParser.class.getMethod(name, types).invoke(p, arguments));
        } catch (InvocationTargetException e) {
            return e.getCause().getClass().getSimpleName();
        } catch (ReflectiveOperationException e) {
            return "no such call";
        }
    }

    private static void namesTests(String page) throws IOException {
        try (var files = Files.list(Path.of("src/test/java"))) {
            for (Path file : files.sorted().toList()) {
                String name = file.getFileName().toString().replace(".java", "");
                Check.due("the page names " + name, page.contains("`" + name + "`"), true);
            }
        }
    }

    private ReadmeTest() {
    }
}
