import java.io.IOException;
import java.lang.reflect.Method;
import java.lang.reflect.Modifier;
import java.nio.file.Files;
import java.nio.file.Path;
import java.util.ArrayList;
import java.util.List;
import java.util.Set;
import java.util.TreeSet;
import java.util.regex.Matcher;
import java.util.regex.Pattern;
import java.util.stream.Stream;

/**
 * README.md says how to use the class and how to run its tests: what it shows must be so. Run from
 * the project's own folder.
 */
public final class ReadmeTest {
    private static final Path README = Path.of("README.md");
    private static final Path TESTS = Path.of("src/test/java");
    private static final Pattern SHOWN =
            Pattern.compile("^ +x\\.(\\w+)\\(([^)]*)\\); +// (-?\\d+):", Pattern.MULTILINE);
    private static final Pattern CALLED = Pattern.compile("^ +x\\.", Pattern.MULTILINE);

    private static int wrong = 0;

    private static void holds(String what, boolean fine) {
        if (!fine) {
            wrong++;
            System.out.println("does not hold: " + what);
        }
    }

    public static void main(String[] args) throws IOException, ReflectiveOperationException {
        String text = Files.readString(README);
        int calls = callsAnswerAsShown(text);
        testsAreNamed(text);
        System.out.println(calls + " calls shown, " + wrong + " not as due");
        if (wrong != 0) {
            System.exit(1);
        }
    }

    private static int callsAnswerAsShown(String text) throws ReflectiveOperationException {
        FirstSigns x = new FirstSigns();
        Set<String> missing = publicNames();
        Matcher shown = SHOWN.matcher(text);
        int calls = 0;
        while (shown.find()) {
            Method method = methodOf(shown.group(1));
            holds("there is a call " + shown.group(1), method != null);
            if (method != null) {
                long got = ((Number) method.invoke(x, arguments(method, shown.group(2)))).longValue();
                holds(shown.group().strip() + " and not " + got,
                        got == Long.parseLong(shown.group(3)));
                missing.remove(shown.group(1));
            }
            calls++;
        }
        holds("each call has its answer behind it", CALLED.matcher(text).results().count() == calls);
        holds("these calls are shown: " + missing, missing.isEmpty());
        return calls;
    }

    private static void testsAreNamed(String text) throws IOException {
        holds("the tests are run by .ci/run",
                text.contains("\n    .ci/run\n") && Files.isExecutable(Path.of(".ci/run")));
        for (String name : testNames()) {
            holds(name + " is named", text.contains("`" + name + "`"));
        }
    }

    private static List<String> testNames() throws IOException {
        List<String> names = new ArrayList<>();
        try (Stream<Path> files = Files.list(TESTS)) {
            for (Path file : files.toList()) {
                String name = file.getFileName().toString();
                if (name.endsWith(".java")) {
                    names.add(name.substring(0, name.length() - ".java".length()));
                }
            }
        }
        return names;
    }

    private static Set<String> publicNames() {
        Set<String> names = new TreeSet<>();
        for (Method method : FirstSigns.class.getDeclaredMethods()) {
            if (Modifier.isPublic(method.getModifiers())) {
                names.add(method.getName());
            }
        }
        return names;
    }

    private static Method methodOf(String name) {
        for (Method method : FirstSigns.class.getDeclaredMethods()) {
            if (Modifier.isPublic(method.getModifiers()) && method.getName().equals(name)) {
                return method;
            }
        }
        return null;
    }

    private static Object[] arguments(Method method, String text) {
        Class<?>[] types = method.getParameterTypes();
        String[] texts = types.length == 0 ? new String[0] : text.split(", ");
        Object[] arguments = new Object[texts.length];
        for (int k = 0; k < texts.length; k++) {
            boolean isLong = k < types.length && types[k] == long.class;
            arguments[k] = isLong ? (Object) Long.valueOf(texts[k]) : Integer.valueOf(texts[k]);
        }
        return arguments;
    }
}
