import java.io.IOException;
import java.lang.reflect.Field;
import java.lang.reflect.Method;
import java.lang.reflect.Modifier;
import java.nio.file.Files;
import java.nio.file.Path;
import java.util.HashMap;
import java.util.List;
import java.util.Map;
import java.util.Set;
import java.util.TreeSet;
import java.util.regex.Matcher;
import java.util.regex.Pattern;
import java.util.stream.Collectors;
import java.util.stream.Stream;

/** README.md: the calls that it shows answer what it says, and what it names is there. */
public final class ReadmeTest {
    private static final String NEW = "ErrorBudgets house = new ErrorBudgets();";
    private static final Pattern CALL =
        Pattern.compile("(?:int (\\w+) = )?house\\.(\\w+)\\(([^)]*)\\);\\s*// (?:([A-Z_]+) \\((-\\d+)\\)|(\\d+))(?:\\D.*)?");

    public static void main(String[] args) throws IOException {
        List<String> lines = Files.readAllLines(Path.of("README.md"));
        Check.promise("README.md");
        examples(lines);
        names(String.join("\n", lines));
        tests(String.join("\n", lines));
        paths();
        Check.end("ReadmeTest");
    }

    /** Every line between "```java" and "```" is a call, and the comment behind it begins with the answer. */
    private static void examples(List<String> lines) {
        boolean inside = false;
        int blocks = 0;
        ErrorBudgets house = null;
        Map<String, Long> known = new HashMap<>();
        for (String line : lines) {
            if (line.startsWith("```")) {
                inside = line.equals("```java");
                blocks += inside ? 1 : 0;
            } else if (inside && line.equals(NEW)) {
                house = new ErrorBudgets();
                known.clear();
            } else if (inside) {
                Check.holds(line + ": a house was made before", house != null);
                Matcher call = CALL.matcher(line);
                boolean reads = call.matches();
                Check.holds(line + ": it is a call with its answer", reads);
                if (reads && house != null) {
                    answers(house, call, known);
                }
            }
        }
        Check.due("blocks of calls", blocks, 2);
    }

    private static void answers(ErrorBudgets house, Matcher call, Map<String, Long> known) {
        long want = Long.parseLong(call.group(call.group(5) == null ? 6 : 5));
        long[] arguments = call.group(3).isEmpty() ? new long[0]
            : Stream.of(call.group(3).split(", ")).mapToLong(word -> valueOf(word, known)).toArray();
        long got = Calls.ask(house, call.group(2), arguments);
        Check.due(call.group(), got, want);
        if (call.group(4) != null) {
            Check.due(call.group(4), constants().getOrDefault(call.group(4), Long.MIN_VALUE), want);
        }
        if (call.group(1) != null) {
            known.put(call.group(1), got);
        }
    }

    private static long valueOf(String word, Map<String, Long> known) {
        return known.containsKey(word) ? known.get(word) : Long.decode(word.replace("L", ""));
    }

    private static Map<String, Long> constants() {
        Map<String, Long> constants = new HashMap<>();
        for (Field field : ErrorBudgets.class.getFields()) {
            try {
                constants.put(field.getName(), (long) field.getInt(null));
            } catch (IllegalAccessException e) {
                Check.holds(field.getName() + " is public", false);
            }
        }
        return constants;
    }

    /** The table names every method and nothing else; the codes have their numbers. */
    private static void names(String page) {
        String table = page.substring(page.indexOf("| --- |"), page.indexOf("No method throws"));
        Set<String> named = found("`([a-z][A-Za-z]*)`", table);
        named.remove("what");
        Set<String> methods = Stream.of(ErrorBudgets.class.getDeclaredMethods())
            .filter(method -> Modifier.isPublic(method.getModifiers()))
            .map(Method::getName).collect(Collectors.toCollection(TreeSet::new));
        Check.holds("it names the methods " + methods + ": " + named, named.equals(methods));
        Matcher code = Pattern.compile("`([A-Z_]+)` \\((-\\d)\\)").matcher(page);
        int codes = 0;
        for (; code.find(); codes++) {
            Check.due(code.group(1), constants().getOrDefault(code.group(1), 0L), Long.parseLong(code.group(2)));
        }
        Check.due("codes", codes, 6);
        for (String constant : found("`([A-Z_]{3,})`", page)) {
            Check.holds(constant + " is a constant", constant.equals("LANGUAGE") || constants().containsKey(constant));
        }
    }

    /** Every test of the project is named, and every test that is named is there. */
    private static void tests(String page) throws IOException {
        Set<String> there = new TreeSet<>();
        try (Stream<Path> files = Files.list(Path.of("src/test/java"))) {
            files.map(file -> file.getFileName().toString().replace(".java", ""))
                .filter(name -> name.endsWith("Test")).forEach(there::add);
        }
        Set<String> named = found("\\b([A-Z][A-Za-z]*Test)\\b", page);
        Check.holds("it names the tests " + there + ": " + named, named.equals(there));
    }

    private static void paths() {
        for (String path : List.of("src/main/java/ErrorBudgets.java", "src/test/EDGES.md", "../shared/DOC.md",
                "../shared/LANGUAGE.md", "../shared/tests")) {
            Check.holds(path + " is there", Files.exists(Path.of(path)));
        }
        Check.holds(".ci/run can be started", Files.isExecutable(Path.of(".ci/run")));
    }

    private static Set<String> found(String pattern, String text) {
        Set<String> found = new TreeSet<>();
        Matcher matcher = Pattern.compile(pattern).matcher(text);
        while (matcher.find()) {
            found.add(matcher.group(1));
        }
        return found;
    }
}
