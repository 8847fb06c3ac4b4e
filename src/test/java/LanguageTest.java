import java.io.IOException;
import java.lang.reflect.Constructor;
import java.lang.reflect.Field;
import java.lang.reflect.Method;
import java.lang.reflect.Modifier;
import java.nio.file.Files;
import java.nio.file.Path;
import java.util.HashSet;
import java.util.List;
import java.util.Set;
import java.util.TreeSet;
import java.util.regex.Matcher;
import java.util.regex.Pattern;

/**
 * The rules of LANGUAGE.md that can be looked at from outside: the face, and words and calls in the
 * text of the class. Run from the project's own folder.
 */
public final class LanguageTest {
    private static final Path SOURCE = Path.of("src/main/java/FirstSigns.java");

    private static final Set<String> FACE = Set.of(
            "int rule(int,int,int)", "int ofRule(int,int)", "int read(int,long,int)",
            "int norm(int)", "long least(int)", "int words(int,int)", "long parts(int,int,int)",
            "int firsts(int)", "int claim(int,int)", "int ofClaim(int)", "int reduced(int,int)",
            "int alike(int,int)", "int common(int,int,int)", "int broken(int)", "int settle()",
            "int might(int,int)", "int undo(int)", "int many(int)");

    private static final List<String> FORBIDDEN = List.of(
            "\\bthrow\\b", "\\bthrows\\b", "\\btry\\b", "\\bcatch\\b", "\\bsynchronized\\b",
            "\\bassert\\b", "\\bpackage\\b", "->", "::", "\\bprotected\\b", "\\bvolatile\\b",
            "\\bequals\\b", "\\bhashCode\\b", "\\btoString\\b", "Exact\\b", "\\bSystem\\.(?!arraycopy)",
            "\\bArrays\\.(?!copyOf\\(|copyOfRange|fill)", "^import (?!java\\.util\\.Arrays;)",
            "^import .*\\*", "\\bstatic\\s*\\{");

    private static int wrong = 0;

    private static void holds(String what, boolean fine) {
        if (!fine) {
            wrong++;
            System.out.println("does not hold: " + what);
        }
    }

    public static void main(String[] args) throws IOException {
        face();
        fields();
        nested(FirstSigns.class.getDeclaredClasses());
        words(withoutComments(Files.readString(SOURCE)));
        System.out.println(wrong == 0 ? "the language is kept" : wrong + " rules are not kept");
        if (wrong != 0) {
            System.exit(1);
        }
    }

    private static void face() {
        int modifiers = FirstSigns.class.getModifiers();
        holds("public and final", Modifier.isPublic(modifiers) && Modifier.isFinal(modifiers));
        Constructor<?>[] constructors = FirstSigns.class.getDeclaredConstructors();
        holds("one constructor", constructors.length == 1
                && constructors[0].getParameterCount() == 0
                && Modifier.isPublic(constructors[0].getModifiers()));
        Set<String> open = new TreeSet<>();
        Set<String> names = new HashSet<>();
        for (Method method : FirstSigns.class.getDeclaredMethods()) {
            if (!Modifier.isPrivate(method.getModifiers())) {
                open.add(shape(method));
                names.add(method.getName());
                holds("public: " + method, Modifier.isPublic(method.getModifiers()));
            }
        }
        holds("the face is the document's: " + open, open.equals(FACE));
        for (Method method : FirstSigns.class.getDeclaredMethods()) {
            holds("no private method has a public one's name: " + method,
                    !Modifier.isPrivate(method.getModifiers()) || !names.contains(method.getName()));
            holds("seven parameters: " + method, method.getParameterCount() <= 7);
        }
    }

    private static String shape(Method method) {
        StringBuilder shape = new StringBuilder();
        shape.append(method.getReturnType().getSimpleName()).append(' ');
        shape.append(method.getName()).append('(');
        String between = "";
        for (Class<?> type : method.getParameterTypes()) {
            shape.append(between).append(type.getSimpleName());
            between = ",";
        }
        return shape.append(')').toString();
    }

    private static void fields() {
        Set<String> constants = new HashSet<>();
        int own = 0;
        for (Field field : FirstSigns.class.getDeclaredFields()) {
            int modifiers = field.getModifiers();
            if (Modifier.isPublic(modifiers)) {
                constants.add(field.getName());
            } else {
                holds("private: " + field, Modifier.isPrivate(modifiers));
            }
            holds("static is final: " + field,
                    !Modifier.isStatic(modifiers) || Modifier.isFinal(modifiers));
            own += Modifier.isStatic(modifiers) ? 0 : 1;
        }
        holds("the constants are the document's",
                constants.equals(Set.of("UNKNOWN", "OUTSIDE", "NONE", "LOST")));
        holds("twenty fields", own <= 20);
    }

    private static void nested(Class<?>[] classes) {
        holds("twelve classes", classes.length < 12);
        for (Class<?> inside : classes) {
            int modifiers = inside.getModifiers();
            holds("static, not open: " + inside, Modifier.isStatic(modifiers)
                    && !Modifier.isPublic(modifiers) && !Modifier.isProtected(modifiers));
            for (Field field : inside.getDeclaredFields()) {
                holds("static is final: " + field, !Modifier.isStatic(field.getModifiers())
                        || Modifier.isFinal(field.getModifiers()));
            }
            for (Method method : inside.getDeclaredMethods()) {
                holds("no name of the face: " + method,
                        FACE.stream().noneMatch(s -> s.contains(" " + method.getName() + "(")));
            }
        }
    }

    private static String withoutComments(String text) {
        return text.replaceAll("(?s)/\\*.*?\\*/", "").replaceAll("//[^\n]*", "");
    }

    private static void words(String text) {
        for (String word : FORBIDDEN) {
            Matcher matcher = Pattern.compile(word, Pattern.MULTILINE).matcher(text);
            holds("not used: " + word, !matcher.find());
        }
        holds("only these signs", text.chars().allMatch(c -> c < 127));
    }
}
