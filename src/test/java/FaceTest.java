import java.lang.reflect.Constructor;
import java.lang.reflect.Field;
import java.lang.reflect.Method;
import java.lang.reflect.Modifier;
import java.nio.file.Files;
import java.nio.file.Path;
import java.util.Set;
import java.util.TreeSet;
import java.util.regex.Matcher;
import java.util.regex.Pattern;

/** The public face is the document's and nothing else, and the source keeps out words the language rules out. */
public final class FaceTest {
    private static final String[] METHODS = {"storm 4", "firm 2", "layer 2", "slope 3", "weakest 2", "blow 1", "taps 2", "need 1",
        "goes 3", "steep 2", "pack 1", "settle 1", "melt 1", "freeze 0", "slide 0", "heat 3", "warm 2", "order 2", "image 1",
        "restore 1", "count 1"};
    private static final String[] CONSTANTS = {"UNKNOWN -1", "OUTSIDE -2", "STATE -3", "FULL -4", "NO -5", "NONE -6"};
    private static int wrong = 0;

    private static void same(String what, Set<String> got, String[] want) {
        Set<String> due = new TreeSet<>(Set.of(want));
        if (!got.equals(due)) {
            wrong++;
            System.out.println(what + ": " + got + ", due are " + due);
        }
    }

    private static void check(String what, boolean holds) {
        if (!holds) {
            wrong++;
            System.out.println(what);
        }
    }

    private static void methods() {
        Set<String> open = new TreeSet<>();
        Set<String> names = new TreeSet<>();
        for (Method m : SnowSlabs.class.getDeclaredMethods()) {
            if (m.isSynthetic() || Modifier.isPrivate(m.getModifiers())) {
                continue;
            }
            open.add(m.getName() + " " + m.getParameterCount());
            names.add(m.getName());
            check(m + " is not public, of int", Modifier.isPublic(m.getModifiers()) && m.getReturnType() == int.class);
            for (Class<?> type : m.getParameterTypes()) {
                check(m + " takes no int", type == int.class);
            }
        }
        same("methods", open, METHODS);
        hiddenNames(SnowSlabs.class, names);
        for (Class<?> inside : SnowSlabs.class.getDeclaredClasses()) {
            check(inside + " is not static", Modifier.isStatic(inside.getModifiers()));
            check(inside + " is public", !Modifier.isPublic(inside.getModifiers()));
            hiddenNames(inside, names);
        }
    }

    private static void hiddenNames(Class<?> type, Set<String> names) {
        for (Method m : type.getDeclaredMethods()) {
            boolean hidden = type != SnowSlabs.class || Modifier.isPrivate(m.getModifiers());
            check(m + " bears a public method's name", !hidden || !names.contains(m.getName()));
        }
    }

    private static void fields() throws IllegalAccessException {
        Set<String> open = new TreeSet<>();
        for (Field f : SnowSlabs.class.getDeclaredFields()) {
            if (!Modifier.isPrivate(f.getModifiers()) && !f.isSynthetic()) {
                check(f + " is no public constant", Modifier.isPublic(f.getModifiers()) && Modifier.isStatic(f.getModifiers())
                    && Modifier.isFinal(f.getModifiers()) && f.getType() == int.class);
                open.add(f.getName() + " " + f.get(null));
            }
        }
        same("constants", open, CONSTANTS);
    }

    private static void source(Path path) throws java.io.IOException {
        String code = Files.readString(path).replaceAll("(?s)/\\*.*?\\*/", " ").replaceAll("//[^\n]*", " ");
        Matcher m = Pattern.compile("\\b(throw|throws|try|catch|synchronized|assert|import|package|native|Exact\\w*)\\b|->|::")
            .matcher(code);
        while (m.find()) {
            wrong++;
            System.out.println("the source has '" + m.group() + "'");
        }
    }

    public static void main(String[] args) throws Exception {
        check("the class is not public and final", Modifier.isPublic(SnowSlabs.class.getModifiers())
            && Modifier.isFinal(SnowSlabs.class.getModifiers()));
        Constructor<?>[] made = SnowSlabs.class.getDeclaredConstructors();
        check("not just one public constructor", made.length == 1 && Modifier.isPublic(made[0].getModifiers())
            && made[0].getParameterCount() == 0);
        methods();
        fields();
        source(Path.of(args.length > 0 ? args[0] : "src/main/java/SnowSlabs.java"));
        System.out.println(wrong == 0 ? "the face is as told" : wrong + " faults");
        if (wrong != 0) {
            System.exit(1);
        }
    }
}
