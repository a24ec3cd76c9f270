import java.lang.reflect.Method;
import java.nio.file.Files;
import java.nio.file.Path;
import java.util.HashSet;
import java.util.List;
import java.util.Map;
import java.util.Set;
import java.util.TreeMap;
import java.util.TreeSet;
import java.util.regex.Matcher;
import java.util.regex.Pattern;

/** The run that README.md shows answers as it says there, and its table tells each call as the document does. */
public final class ReadmeTest {
    private static final Pattern SHOWN = Pattern.compile("snow\\.(\\w+)\\(([^)]*)\\);\\s*// (-?\\d+): .+");
    private static final Pattern ROW = Pattern.compile("\\| `(\\w+)\\(([^)]*)\\)` \\|(.+)\\|(.*)\\|");
    private static final Pattern PROMISE = Pattern.compile("`int (\\w+)\\(([^)]*)\\)`: (.+)");
    private static final String[] REFUSALS = {"UNKNOWN", "OUTSIDE", "STATE", "FULL"};
    private static int wrong = 0;

    private static void claim(String what, boolean stands) {
        if (!stands) {
            wrong++;
            System.out.println("it does not hold that " + what);
        }
    }

    private static Map<String, Method> calls() {
        Map<String, Method> byName = new TreeMap<>();
        for (Method m : SnowSlabs.class.getDeclaredMethods()) {
            if (java.lang.reflect.Modifier.isPublic(m.getModifiers())) {
                byName.put(m.getName(), m);
            }
        }
        return byName;
    }

    private static Object[] numbers(String arguments) {
        if (arguments.isBlank()) {
            return new Object[0];
        }
        return Pattern.compile(",\\s*").splitAsStream(arguments).map(Integer::valueOf).toArray();
    }

    private static void run(List<String> readme, Map<String, Method> calls) throws ReflectiveOperationException {
        SnowSlabs snow = new SnowSlabs();
        Set<String> shown = new TreeSet<>();
        for (String line : readme) {
            if (!line.startsWith("snow.")) {
                continue;
            }
            Matcher m = SHOWN.matcher(line);
            boolean read = m.matches() && calls.containsKey(m.group(1));
            claim("this is a call with its answer: " + line, read);
            if (read) {
                int got = (Integer) calls.get(m.group(1)).invoke(snow, numbers(m.group(2)));
                claim("the answer is as shown, for it is " + got + ": " + line, got == Integer.parseInt(m.group(3)));
                shown.add(m.group(1));
            }
        }
        claim("each call is shown, but only " + shown, shown.equals(calls.keySet()));
    }

    /** The refusals that a text tells, in its order. */
    private static String refusals(String text) {
        StringBuilder told = new StringBuilder();
        Matcher m = Pattern.compile(String.join("|", REFUSALS)).matcher(text);
        while (m.find()) {
            told.append(m.group()).append(' ');
        }
        return told.toString();
    }

    private static void table(List<String> readme, List<String> document, Map<String, Method> calls) {
        Map<String, String> told = new TreeMap<>();
        Set<String> withNone = new HashSet<>();
        for (String line : document) {
            Matcher m = PROMISE.matcher(line);
            if (m.matches()) {
                told.put(m.group(1) + "(" + m.group(2).replace("int ", "") + ")", refusals(m.group(3)));
                if (m.group(3).contains("NONE")) {
                    withNone.add(m.group(1));
                }
            }
        }
        Map<String, String> rows = new TreeMap<>();
        for (String line : readme) {
            Matcher m = ROW.matcher(line);
            if (m.matches()) {
                rows.put(m.group(1) + "(" + m.group(2) + ")", refusals(m.group(4)));
                claim("the row of " + m.group(1) + " names NONE just if the document does",
                    m.group(3).contains("NONE") == withNone.contains(m.group(1)));
            }
        }
        claim("the document tells each call: " + told.keySet(), told.size() == calls.size());
        claim("the table is " + told + ", and not " + rows, rows.equals(told));
    }

    public static void main(String[] args) throws Exception {
        List<String> readme = Files.readAllLines(Path.of("README.md"));
        Map<String, Method> calls = calls();
        run(readme, calls);
        table(readme, Files.readAllLines(Path.of("../shared/DOC.md")), calls);
        System.out.println(wrong == 0 ? "README.md is as the class and the document" : wrong + " faults");
        if (wrong != 0) {
            System.exit(1);
        }
    }
}
