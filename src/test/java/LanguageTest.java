import java.io.IOException;
import java.lang.reflect.Field;
import java.lang.reflect.Method;
import java.lang.reflect.Modifier;
import java.nio.file.Files;
import java.nio.file.Path;
import java.util.ArrayList;
import java.util.Arrays;
import java.util.List;
import java.util.Set;
import java.util.TreeSet;
import java.util.regex.Matcher;
import java.util.regex.Pattern;

/** What of ../shared/LANGUAGE.md can be seen from the program; the argument is the program's file. */
public final class LanguageTest {
    private static final int MOST_LINES = 60;
    private static final int MOST_CLASSES = 12;
    private static final int MOST_FIELDS = 20;
    private static final int MOST_PARAMETERS = 7;
    private static final String[] NOT_THERE = {
        "throw", "throws", "try", "catch", "finally", "synchronized", "assert", "package", "double", "float", "var",
        "record", "Integer", "Long", "Object", "System\\.(?!arraycopy)\\w+", "equals", "hashCode", "toString",
        "->", "::", "\\w+Exact", "@\\w+", "volatile", "transient", "native", "protected", "yield", "static \\{",
        "random", "Thread", "instanceof",
    };
    private static final List<String> IMPORTS = Arrays.asList("import java.util.ArrayList;", "import java.util.Arrays;");

    public static void main(String[] args) throws IOException {
        String source = Files.readString(Path.of(args[0]));
        String words = source.replaceAll("(?s)/\\*.*?\\*/", "").replaceAll("//[^\n]*", "")
            .replaceAll("\"[^\"\n]*\"", "\"\"");
        for (String word : NOT_THERE) {
            Matcher found = Pattern.compile("(?<!\\w)" + word + "(?!\\w)").matcher(words);
            Check.holds("no " + word + " stands in the program", !found.find());
        }
        for (String line : words.split("\n")) {
            Check.holds(line + " is due", !line.startsWith("import") || IMPORTS.contains(line));
        }
        for (int i = 0; i < source.length(); i++) {
            Check.holds("sign " + (int) source.charAt(i) + " is due", source.charAt(i) < 127);
        }
        methodsAreShort(words);
        List<Class<?>> classes = new ArrayList<>(Arrays.asList(FiveCards.class.getDeclaredClasses()));
        classes.add(FiveCards.class);
        Check.holds("there are few classes", classes.size() <= MOST_CLASSES);
        for (Class<?> one : classes) {
            fieldsAreFew(one);
            methodsTakeFew(one);
        }
        Check.end();
    }

    private static void fieldsAreFew(Class<?> one) {
        int fields = 0;
        for (Field field : one.getDeclaredFields()) {
            boolean isStatic = Modifier.isStatic(field.getModifiers());
            fields += isStatic ? 0 : 1;
            Check.holds(field + " is final", !isStatic || Modifier.isFinal(field.getModifiers()) || field.isSynthetic());
        }
        Check.holds(one + " has few fields", fields <= MOST_FIELDS);
    }

    private static void methodsTakeFew(Class<?> one) {
        Set<String> faces = new TreeSet<>();
        for (Method method : FiveCards.class.getDeclaredMethods()) {
            faces.add(Modifier.isPublic(method.getModifiers()) ? method.getName() : "");
        }
        for (Method method : one.getDeclaredMethods()) {
            Check.holds(method + " takes few parameters", method.getParameterCount() <= MOST_PARAMETERS);
            boolean isOfTheFace = one == FiveCards.class && Modifier.isPublic(method.getModifiers());
            Check.holds(method + " bears no name of the face", isOfTheFace || !faces.contains(method.getName()));
        }
    }

    private static void methodsAreShort(String words) {
        int from = 0;
        String[] lines = words.split("\n");
        for (int k = 0; k < lines.length; k++) {
            if (lines[k].matches("( {4}){1,2}\\w.*\\) \\{")) {
                from = k;
            } else if (lines[k].matches("( {4}){1,2}\\}")) {
                Check.holds(lines[from].trim() + " is short", lines[from].contains("class") || k - from < MOST_LINES);
            }
        }
    }
}
