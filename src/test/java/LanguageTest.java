import java.io.IOException;
import java.lang.reflect.Constructor;
import java.lang.reflect.Field;
import java.lang.reflect.Method;
import java.lang.reflect.Modifier;
import java.nio.file.Files;
import java.nio.file.Path;
import java.util.ArrayList;
import java.util.Arrays;
import java.util.List;
import java.util.Set;
import java.util.TreeSet;
import java.util.regex.Matcher;
import java.util.regex.Pattern;

/** The rules of ../shared/LANGUAGE.md that a program can look after. */
public final class LanguageTest {
    private static final List<String> FACE = List.of(
        "int set(int, int)", "int service(int)", "int budget(int, int)", "int outage(int, int, int)",
        "int release(int, int, int)", "int lend(int, int, int, int)", "int repay(int)", "int plan(int, int, int, int)",
        "int drop(int)", "int hours(int)", "int ofService(int, int)", "long account(int, int)", "int ofLoan(int, int)",
        "int ofPlan(int, int)", "int count(int)", "long leftIn(int, int)", "int frozenIn(int)", "int thawsIn(int)",
        "int doneAt(int)", "int bestLender(int, int)", "long leastLoan(int)", "int safeSize(int)", "int put(long)",
        "int wipe()", "int fault()", "int carryOut()", "int undo()", "int save(int)", "int restore(int)");

    public static void main(String[] args) throws IOException {
        String source = Files.readString(Path.of("src/main/java/ErrorBudgets.java"));
        face();
        words(source);
        lengths(source);
        classes();
        Check.end("LanguageTest");
    }

    private static void face() {
        Check.promise("rule 1");
        Set<String> open = new TreeSet<>();
        Set<String> names = new TreeSet<>();
        for (Method method : ErrorBudgets.class.getDeclaredMethods()) {
            if (!Modifier.isPrivate(method.getModifiers())) {
                open.add(signature(method));
                names.add(method.getName());
            }
        }
        Check.holds("the face is the document's: " + open, open.equals(new TreeSet<>(FACE)));
        for (Class<?> type : everyClass()) {
            for (Method method : type.getDeclaredMethods()) {
                boolean hides = Modifier.isPrivate(method.getModifiers()) && names.contains(method.getName());
                Check.holds("private " + method.getName() + " bears no public name", !hides);
                Check.holds(method.getName() + " takes at most seven", method.getParameterCount() <= 7);
            }
        }
        Constructor<?>[] constructors = ErrorBudgets.class.getDeclaredConstructors();
        Check.due("constructors", constructors.length, 1);
        Check.holds("public", Modifier.isPublic(constructors[0].getModifiers()));
        for (Field field : ErrorBudgets.class.getDeclaredFields()) {
            boolean open2 = !Modifier.isPrivate(field.getModifiers());
            Check.holds(field.getName(), !open2 || Modifier.isStatic(field.getModifiers()));
        }
    }

    private static String signature(Method method) {
        List<String> types = new ArrayList<>();
        for (Class<?> type : method.getParameterTypes()) {
            types.add(type.getName());
        }
        return method.getReturnType().getName() + " " + method.getName() + "(" + String.join(", ", types) + ")";
    }

    private static List<Class<?>> everyClass() {
        List<Class<?>> all = new ArrayList<>(Arrays.asList(ErrorBudgets.class.getDeclaredClasses()));
        all.add(ErrorBudgets.class);
        return all;
    }

    private static void words(String source) {
        Check.promise("rules 2 to 13");
        String code = source.replaceAll("(?s)/\\*.*?\\*/", "").replaceAll("//.*", "");
        String[] words = {
            "import", "package", "throw", "throws", "try", "catch", "finally", "synchronized", "assert", "volatile",
            "double", "float", "instanceof", "Object", "random", "currentTimeMillis", "nanoTime", "Thread", "var",
            "equals", "hashCode", "toString", "\\w*Exact", "protected",
        };
        for (String word : words) {
            Check.holds("no " + word, !Pattern.compile("\\b" + word + "\\b").matcher(code).find());
        }
        Check.holds("no lambda", !code.contains("->"));
        Check.holds("no method reference", !code.contains("::"));
        Check.holds("no text is joined by +", !Pattern.compile("\"\\s*\\+|\\+\\s*\"").matcher(code).find());
        Check.holds("only signs up to 127", source.chars().allMatch(sign -> sign < 128));
    }

    private static void lengths(String source) {
        Check.promise("rule 11");
        String[] lines = source.split("\n");
        int from = 0;
        Pattern head = Pattern.compile("^( {4}| {8})(public|private) [^=;]*\\{$");
        for (int i = 0; i < lines.length; i++) {
            Matcher matcher = head.matcher(lines[i]);
            if (matcher.find() && !lines[i].contains(" class ")) {
                from = i;
                String end = matcher.group(1) + "}";
                while (!lines[i].equals(end)) {
                    i++;
                }
                Check.holds("lines " + from + " to " + i + " are at most sixty", i - from < 60);
            }
        }
        Check.holds("a method was found", from > 0);
    }

    private static void classes() {
        Check.promise("rules 5 and 11");
        Check.holds("at most twelve classes", everyClass().size() <= 12);
        for (Class<?> type : everyClass()) {
            int fields = 0;
            Check.holds(type.getName() + " is static", type == ErrorBudgets.class || Modifier.isStatic(type.getModifiers()));
            for (Field field : type.getDeclaredFields()) {
                if (Modifier.isStatic(field.getModifiers())) {
                    Check.holds(field.getName() + " is final", Modifier.isFinal(field.getModifiers()));
                } else {
                    fields++;
                }
            }
            Check.holds(type.getName() + " has at most twenty fields", fields <= 20);
        }
    }
}
