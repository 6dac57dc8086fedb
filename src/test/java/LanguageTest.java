import java.io.IOException;
import java.nio.file.Files;
import java.nio.file.Path;
import java.util.Arrays;
import java.util.List;
import java.util.regex.Matcher;
import java.util.regex.Pattern;

/** What of ../shared/LANGUAGE.md can be seen from the program's words; its argument is the program's file. */
public final class LanguageTest {
    private static final int MOST_LINES = 60;
    private static final String[] NOT_THERE = {
        "throw", "throws", "try", "catch", "finally", "synchronized", "assert", "package", "double", "float", "var",
        "record", "Integer", "Long", "Object", "System\\.(?!arraycopy)\\w+", "equals", "hashCode", "toString",
        "->", "::", "\\w+Exact", "@\\w+", "volatile", "transient", "native", "protected", "yield", "static \\{",
        "random", "Thread", "instanceof",
    };
    private static final List<String> IMPORTS = Arrays.asList("import java.util.ArrayList;", "import java.util.Arrays;");

    public static void main(String[] args) throws IOException {
        String source = Files.readString(Path.of(args[0]));
        String words = source.replaceAll("(?s)/\\*.*?\\*/", "").replaceAll("//[^\n]*", "")
            .replaceAll("\"[^\"\n]*\"", "\"\"");
        for (String word : NOT_THERE) {
            Matcher found = Pattern.compile("(?<!\\w)" + word + "(?!\\w)").matcher(words);
            Check.holds("no " + word + " stands in the program", !found.find());
        }
        for (String line : words.split("\n")) {
            Check.holds(line + " is due", !line.startsWith("import") || IMPORTS.contains(line));
        }
        for (int i = 0; i < source.length(); i++) {
            Check.holds("sign " + (int) source.charAt(i) + " is due", source.charAt(i) < 127);
        }
        methodsAreShort(words);
        Check.end();
    }

    private static void methodsAreShort(String words) {
        int from = 0;
        String[] lines = words.split("\n");
        for (int k = 0; k < lines.length; k++) {
            if (lines[k].matches("( {4}){1,2}\\w.*\\) \\{")) {
                from = k;
            } else if (lines[k].matches("( {4}){1,2}\\}")) {
                Check.holds(lines[from].trim() + " is short", lines[from].contains("class") || k - from < MOST_LINES);
            }
        }
    }
}
