package support;

import java.io.IOException;
import java.lang.annotation.ElementType;
import java.lang.annotation.Retention;
import java.lang.annotation.RetentionPolicy;
import java.lang.annotation.Target;
import java.lang.reflect.InvocationTargetException;
import java.lang.reflect.Method;
import java.nio.file.Files;
import java.nio.file.Path;
import java.util.ArrayList;
import java.util.Arrays;
import java.util.Comparator;
import java.util.List;
import java.util.Map;
import java.util.TreeMap;
import java.util.function.IntBinaryOperator;
import java.util.function.IntToLongFunction;
import java.util.function.IntUnaryOperator;
import java.util.regex.Matcher;
import java.util.regex.Pattern;

/**
 * Runs tests that each quote the words of the document that they hold it to. A test is a static
 * method with {@link Says}, named after its promise (promise07..) or its section (terms.., whatItIs..).
 * Words of a promise that no test quotes are a failure too, so that no sentence goes without one.
 */
public final class Boundaries {
    /** The words of the document that a test is for, as they stand there. */
    @Retention(RetentionPolicy.RUNTIME)
    @Target(ElementType.METHOD)
    public @interface Says {
        String[] value();
    }

    public static final String TERMS = "terms";
    public static final String WHAT_IT_IS = "whatItIs";

    private static final Path DOCUMENT = Path.of("../shared/DOC.md");
    private static final int MOST_DIGITS = 9;

    private static String test = "";
    private static int wrong = 0;
    private static int asked = 0;

    private Boundaries() {
    }

    public static void due(String call, long got, long want) {
        asked++;
        if (got != want) {
            fail(call + " answered " + got + ", due is " + want);
        }
    }

    public static void due(String what, String got, String want) {
        asked++;
        if (!got.equals(want)) {
            fail(what + " is " + got + ", due is " + want);
        }
    }

    private static void fail(String what) {
        wrong++;
        System.out.println(test + ": " + what);
    }

    /** Every number that is no ROW of at most so many SIGNS is refused. */
    public static void refusesNoRows(String call, int most, IntToLongFunction ask, long refusal) {
        for (int row : noRows(most)) {
            due(call + " of " + row, ask.applyAsLong(row), refusal);
        }
    }

    /** No ROW of 0 to so many SIGNS is refused. */
    public static void takesRows(String call, int most, IntToLongFunction ask, long refusal) {
        for (int row : rows(most)) {
            due(call + " of " + row + " refused", ask.applyAsLong(row) == refusal ? 1 : 0, 0);
        }
    }

    /** ROWS of each length, of each digit alone and of all digits in turn. */
    public static List<Integer> rows(int most) {
        List<Integer> rows = new ArrayList<>();
        rows.add(0);
        for (int length = 1; length <= most; length++) {
            for (int digit = 1; digit <= 6; digit++) {
                rows.add(ofOneDigit(length, digit));
            }
            rows.add(Integer.parseInt("123456123".substring(0, length)));
            rows.add(Integer.parseInt("654321654".substring(0, length)));
        }
        return rows;
    }

    /** Too small, too long, and a wrong digit at each place of each length. */
    public static List<Integer> noRows(int most) {
        List<Integer> numbers = new ArrayList<>(List.of(-1, -2, -3, -8, -9, -10, -11, -111,
                -111111111, Integer.MIN_VALUE, Integer.MIN_VALUE + 1, Integer.MAX_VALUE,
                1111111111, 1666666666, 2111111111, 1000000000, 2000000000));
        for (int length = most + 1; length <= MOST_DIGITS; length++) {
            numbers.add(ofOneDigit(length, 1));
            numbers.add(ofOneDigit(length, 6));
        }
        for (int length = 1; length <= most; length++) {
            addWrongDigits(numbers, length);
        }
        return numbers;
    }

    private static void addWrongDigits(List<Integer> numbers, int length) {
        int unit = 1;
        for (int place = 0; place < length; place++) {
            // A 0 ahead of all other digits is not written, so that it makes no other number.
            if (place < length - 1) {
                numbers.add(ofOneDigit(length, 1) - unit);
            }
            for (int digit = 7; digit <= 9; digit++) {
                numbers.add(ofOneDigit(length, 1) + (digit - 1) * unit);
            }
            unit *= 10;
        }
    }

    /** All RULES, all CLAIMS and how many CHANGES are kept, told as a text; 25 calls. */
    public static String state(
            IntBinaryOperator ofRule, IntUnaryOperator ofClaim, IntUnaryOperator many) {
        StringBuilder text = new StringBuilder();
        for (int s = 0; s < 6; s++) {
            for (int letter = 0; letter < 3; letter++) {
                text.append(ofRule.applyAsInt(s, letter)).append(' ');
            }
            text.append('/').append(ofClaim.applyAsInt(s)).append(' ');
        }
        return text.append("kept ").append(many.applyAsInt(3)).toString();
    }

    public static int ofOneDigit(int length, int digit) {
        return Integer.parseInt(String.valueOf(digit).repeat(length));
    }

    /** Runs all tests of a class; ends with 1 if one fails or a sentence has none. */
    public static void run(Class<?> tests, String... sections) throws IOException {
        Map<String, Quotes> document = read();
        Method[] methods = tests.getDeclaredMethods();
        Arrays.sort(methods, Comparator.comparing(Method::getName));
        int count = 0;
        for (Method method : methods) {
            Says says = method.getAnnotation(Says.class);
            if (says != null) {
                count++;
                test = method.getName();
                quote(document.get(section(test)), says);
                call(method);
            }
        }
        test = tests.getName();
        for (String section : sections) {
            demandAllQuoted(section, document.get(section));
        }
        System.out.println(count + " tests, " + asked + " answers, " + wrong + " not as due");
        if (wrong != 0 || count == 0) {
            System.exit(1);
        }
    }

    private static String section(String name) {
        return name.replaceAll("^(" + TERMS + "|" + WHAT_IT_IS + "|promise\\d\\d).*", "$1");
    }

    private static void quote(Quotes quotes, Says says) {
        for (String words : says.value()) {
            if (quotes == null || !quotes.mark(words)) {
                fail("the document does not say there: " + words);
            }
        }
    }

    private static void call(Method method) {
        try {
            method.setAccessible(true);
            method.invoke(null);
        } catch (InvocationTargetException thrown) {
            fail("threw " + thrown.getCause());
        } catch (IllegalAccessException closed) {
            fail("can't be called");
        }
    }

    private static void demandAllQuoted(String section, Quotes quotes) {
        if (quotes == null) {
            fail("the document has no " + section);
        } else if (quotes.left().matches(".*[A-Za-z0-9].*")) {
            fail("no test for these words of " + section + ": " + quotes.left());
        }
    }

    /** What the document says, by section: its terms and each of its promises. */
    private static Map<String, Quotes> read() throws IOException {
        Map<String, Quotes> document = new TreeMap<>();
        Matcher heading = Pattern.compile("Promise (\\d+):[^\n]*\n(.*)", Pattern.DOTALL).matcher("");
        for (String part : Files.readString(DOCUMENT).split("\n## ")) {
            if (part.startsWith("What it is\n")) {
                document.put(WHAT_IT_IS, new Quotes(part));
            } else if (part.startsWith("Terms\n")) {
                document.put(TERMS, new Quotes(terms(part)));
            } else if (heading.reset(part).matches()) {
                String name = String.format("promise%02d", Integer.parseInt(heading.group(1)));
                document.put(name, new Quotes(heading.group(2).replaceFirst("`[^`]*`:", "")));
            }
        }
        return document;
    }

    /** Without its heading, its numbers and marks, and what it says of the face's own headings. */
    private static String terms(String part) {
        return part.replaceFirst("Terms\n", "").replaceAll("(?m)^```.*$", "")
                .replaceAll("==== \\d ", "").replaceAll("(?m)^Ahead of the calls.*$", "");
    }

    /** The words of a section, and which of them have been quoted. */
    private static final class Quotes {
        private final String words;
        private final StringBuilder left;

        Quotes(String text) {
            words = text.replaceAll("\\s+", " ").trim();
            left = new StringBuilder(words);
        }

        boolean mark(String quoted) {
            int from = words.indexOf(quoted);
            for (int k = from; from >= 0 && k < from + quoted.length(); k++) {
                left.setCharAt(k, ' ');
            }
            return from >= 0;
        }

        String left() {
            return left.toString().replaceAll("\\s+", " ").trim();
        }
    }
}
