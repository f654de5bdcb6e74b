import java.io.IOException;
import java.lang.reflect.Field;
import java.lang.reflect.Method;
import java.lang.reflect.Modifier;
import java.nio.file.Files;
import java.nio.file.Path;
import java.util.ArrayList;
import java.util.List;
import java.util.Set;
import java.util.TreeSet;
import java.util.regex.Matcher;
import java.util.regex.Pattern;

/** What a reader can see of LANGUAGE.md's rules in the file and in its classes. */
public final class LanguageTest {
    private static final Path FILE = Path.of("src/main/java/DaySimulate.java");
    private static final Set<String> THROWN = Set.of("IllegalStateException", "IllegalArgumentException",
            "IndexOutOfBoundsException", "ArithmeticException", "UnsupportedOperationException");
    private static final Set<String> LIBRARY = Set.of("Math.max", "Math.min", "Math.abs");
    private static final String[] NO_WORDS = {"package", "import", "try", "catch", "finally", "synchronized", "assert",
        "volatile", "native", "System", "Object", "Thread", "double", "float", "null"};
    private static final int MOST_LINES = 60;
    private static final int MOST_PARAMETERS = 7;
    private static final int MOST_CLASSES = 12;
    private static final int MOST_FIELDS = 20;

    public static void main(String[] args) throws IOException {
        String code = withoutComments(Files.readString(FILE));
        words(code);
        library(code);
        exceptions(code);
        lengths(code);
        List<Class<?>> classes = new ArrayList<>(List.of(DaySimulate.class.getDeclaredClasses()));
        classes.add(DaySimulate.class);
        Check.holds("rule 11: classes", classes.size() <= MOST_CLASSES);
        for (Class<?> one : classes) {
            fields(one);
            names(one);
        }
        Check.finish();
    }

    private static String withoutComments(String text) {
        return text.replaceAll("(?s)/\\*.*?\\*/", "").replaceAll("//[^\n]*", "");
    }

    private static void words(String code) {
        for (String word : NO_WORDS) {
            Check.holds("no " + word, !Pattern.compile("\\b" + word + "\\b").matcher(code).find());
        }
        Check.holds("rule 2: no lambda, no method reference", !code.contains("->") && !code.contains("::"));
        Check.holds("rule 3: characters up to 255", code.chars().allMatch(c -> c <= 255));
        Check.holds("rule 5: no static block", !Pattern.compile("static\\s*\\{").matcher(code).find());
    }

    private static void library(String code) {
        Matcher m = Pattern.compile("\\b[A-Z]\\w*[a-z]\\w*\\.\\w+").matcher(code);
        while (m.find()) {
            Check.holds("rule 4: " + m.group(), LIBRARY.contains(m.group()));
        }
    }

    private static void exceptions(String code) {
        Matcher m = Pattern.compile("\\bthrow\\b([^;]*);").matcher(code);
        Pattern written = Pattern.compile(" new (\\w+)\\((\"[^\"]*\")?\\)");
        while (m.find()) {
            Matcher thrown = written.matcher(m.group(1));
            Check.holds("rule 6: throw" + m.group(1), thrown.matches() && THROWN.contains(thrown.group(1)));
        }
    }

    /** A method begins and ends at the same indentation. */
    private static void lengths(String code) {
        Matcher m = Pattern.compile("(?ms)^( +)[a-z][^;{}=]*\\)[^;{}=]*\\{\n.*?\n\\1\\}$").matcher(code);
        int methods = 0;
        while (m.find()) {
            methods++;
            String first = m.group().trim().split("\n")[0];
            Check.holds("rule 11: lines of " + first, m.group().lines().count() <= MOST_LINES);
        }
        int found = methods;
        Check.holds("methods are found", found > 40);
    }

    private static void fields(Class<?> one) {
        int count = 0;
        for (Field f : one.getDeclaredFields()) {
            int m = f.getModifiers();
            boolean constant = Modifier.isFinal(m) && f.getType() == int.class;
            Check.holds("rule 5: " + f, !Modifier.isStatic(m) || constant);
            count += Modifier.isStatic(m) ? 0 : 1;
        }
        Check.holds("rule 11: fields of " + one, count <= MOST_FIELDS);
    }

    private static void names(Class<?> one) {
        Set<String> face = new TreeSet<>();
        for (Method m : DaySimulate.class.getMethods()) {
            face.add(m.getName());
        }
        for (Method m : one.getDeclaredMethods()) {
            boolean own = !Modifier.isPublic(m.getModifiers());
            Check.holds("rule 1: the name of " + m, !own || !face.contains(m.getName()));
            Check.holds("rule 11: parameters of " + m, m.getParameterCount() <= MOST_PARAMETERS);
        }
    }
}
