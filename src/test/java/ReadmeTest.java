import java.io.IOException;
import java.lang.reflect.Method;
import java.nio.file.Files;
import java.nio.file.Path;
import java.util.Arrays;
import java.util.Set;
import java.util.TreeSet;
import java.util.regex.MatchResult;
import java.util.regex.Matcher;
import java.util.regex.Pattern;
import java.util.stream.Collectors;
import java.util.stream.Stream;

/** That README.md tells how the class is used as it is, and names every test. */
public final class ReadmeTest {
    private static final Check check = new Check();
    private static final Pattern TOLD = Pattern.compile("for \\(char c : \"([^\"]*)\"\\.toCharArray\\(\\)\\) bows\\.write");
    private static final Pattern CALL = Pattern.compile("(?m)^bows\\.(\\w+)\\(([^)]*)\\);\\s*// (-?\\d+|[A-Z]+)");
    private static final Pattern ROW = Pattern.compile("(?m)^\\| (\\w+Test) \\|");

    public static void main(String[] args) throws Exception {
        String readme = Files.readString(Path.of("README.md"));
        example(readme.substring(readme.indexOf("```java"), readme.indexOf("## Tests")));
        table(readme);
        check.end("ReadmeTest");
    }

    private static void example(String example) throws Exception {
        Matcher told = TOLD.matcher(example);
        check.holds("a house is told", told.find());
        LastBows bows = new LastBows();
        for (char c : told.group(1).toCharArray()) {
            bows.write(c);
        }
        Set<String> shown = new TreeSet<>(Set.of("write"));
        for (MatchResult call : CALL.matcher(example).results().toList()) {
            Method method = method(call.group(1));
            shown.add(method.getName());
            long got = ((Number) method.invoke(bows, arguments(method, call.group(2)))).longValue();
            check.due(call.group(1) + "(" + call.group(2) + ")", got, answer(call.group(3)));
        }
        long lines = example.lines().filter(line -> line.startsWith("bows.")).count();
        check.due("calls without an answer", lines - CALL.matcher(example).results().count(), 0);
        check.same("calls shown", shown, methods().map(Method::getName).collect(Collectors.toCollection(TreeSet::new)));
    }

    private static Stream<Method> methods() {
        return Arrays.stream(LastBows.class.getDeclaredMethods())
            .filter(method -> java.lang.reflect.Modifier.isPublic(method.getModifiers()));
    }

    private static Method method(String name) {
        return methods().filter(method -> method.getName().equals(name)).findFirst().orElseThrow();
    }

    private static Object[] arguments(Method method, String told) {
        String[] words = told.isEmpty() ? new String[0] : told.split(", ");
        Class<?>[] types = method.getParameterTypes();
        Object[] arguments = new Object[words.length];
        for (int i = 0; i < words.length; i++) {
            if (types[i] == boolean.class) {
                arguments[i] = Boolean.valueOf(words[i]);
            } else if (types[i] == long.class) {
                arguments[i] = Long.valueOf(words[i]);
            } else {
                arguments[i] = Integer.valueOf(words[i]);
            }
        }
        return arguments;
    }

    private static long answer(String told) throws ReflectiveOperationException {
        return Character.isUpperCase(told.charAt(0)) ? LastBows.class.getField(told).getInt(null) : Long.parseLong(told);
    }

    private static void table(String readme) throws IOException {
        Set<String> named = ROW.matcher(readme).results().map(row -> row.group(1))
            .collect(Collectors.toCollection(TreeSet::new));
        try (Stream<Path> files = Files.list(Path.of("src/test/java"))) {
            Set<String> there = files.map(file -> file.getFileName().toString())
                .filter(name -> name.endsWith("Test.java")).map(name -> name.replace(".java", ""))
                .collect(Collectors.toCollection(TreeSet::new));
            check.same("tests named", named, there);
        }
    }
}
