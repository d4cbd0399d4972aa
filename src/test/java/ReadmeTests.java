import java.io.IOException;
import java.lang.reflect.Method;
import java.lang.reflect.Modifier;
import java.nio.file.Files;
import java.nio.file.Path;
import java.util.ArrayList;
import java.util.List;
import java.util.Set;
import java.util.TreeSet;
import java.util.regex.Matcher;
import java.util.regex.Pattern;
import java.util.stream.Stream;

/** The answers that README.md shows in its example are those that the class gives; it names every call and test. */
public final class ReadmeTests {
    private static final Pattern CALL =
        Pattern.compile("desk\\.(\\w+)\\(([^()]*)\\); +// (true|false|-?\\d+)(?::.*)?");
    private static final String MAKES = "FastestRun desk = new FastestRun();";

    public static void main(String[] args) throws IOException, ReflectiveOperationException {
        List<String> readme = Files.readAllLines(Path.of("README.md"));
        theExample(exampleIn(readme));
        everyCall(String.join("\n", readme));
        everyTest(String.join("\n", readme));
        Check.end();
    }

    private static List<String> exampleIn(List<String> readme) {
        List<String> example = new ArrayList<>();
        boolean inside = false;
        int blocks = 0;
        for (String line : readme) {
            if (line.equals("```java")) {
                inside = true;
                blocks++;
            } else if (line.equals("```")) {
                inside = false;
            } else if (inside && !line.isBlank()) {
                example.add(line);
            }
        }
        Check.due("examples in README.md", blocks, 1);
        return example;
    }

    private static void theExample(List<String> example) throws ReflectiveOperationException {
        FastestRun desk = new FastestRun();
        Check.due("the example makes a desk first", !example.isEmpty() && example.get(0).equals(MAKES), true);
        int shown = 0;
        for (String line : example.subList(Math.min(1, example.size()), example.size())) {
            Matcher call = CALL.matcher(line);
            boolean readable = call.matches();
            Check.due("a call and its answer: " + line, readable, true);
            if (readable) {
                Check.due(line, answer(desk, call.group(1), call.group(2)), number(call.group(3)));
                shown++;
            }
        }
        Check.due("some answers are shown", shown >= 20, true);
    }

    private static long answer(FastestRun desk, String name, String told) throws ReflectiveOperationException {
        Method method = methodNamed(name);
        String[] words = told.isBlank() ? new String[0] : told.split(", *");
        Object[] arguments = new Object[words.length];
        for (int i = 0; i < words.length; i++) {
            boolean isBoolean = method.getParameterTypes()[i] == boolean.class;
            arguments[i] = isBoolean ? (Object) Boolean.valueOf(words[i]) : (Object) Integer.valueOf(words[i]);
        }
        return number(String.valueOf(method.invoke(desk, arguments)));
    }

    private static Method methodNamed(String name) throws NoSuchMethodException {
        for (Method method : FastestRun.class.getDeclaredMethods()) {
            if (Modifier.isPublic(method.getModifiers()) && method.getName().equals(name)) {
                return method;
            }
        }
        throw new NoSuchMethodException("README.md calls " + name);
    }

    private static long number(String answer) {
        if (answer.equals("true") || answer.equals("false")) {
            return answer.equals("true") ? 1 : 0;
        }
        return Long.parseLong(answer);
    }

    private static void everyCall(String readme) {
        Set<String> missing = new TreeSet<>();
        for (Method method : FastestRun.class.getDeclaredMethods()) {
            if (Modifier.isPublic(method.getModifiers()) && !readme.contains("`" + method.getName() + "` (")) {
                missing.add(method.getName());
            }
        }
        Check.due("calls not told in README.md: " + missing, missing.size(), 0);
        for (int promise = 1; promise <= 27; promise++) {
            Check.due("promise " + promise + " is told in README.md", readme.contains("` (" + promise + ")"), true);
        }
    }

    private static void everyTest(String readme) throws IOException {
        for (String folder : new String[] {"src/test/java", "src/test/support"}) {
            try (Stream<Path> files = Files.list(Path.of(folder))) {
                files.map(file -> file.getFileName().toString().replace(".java", ""))
                    .forEach(name -> Check.due(name + " is told in README.md", readme.contains("`" + name + "`"), true));
            }
        }
    }
}
