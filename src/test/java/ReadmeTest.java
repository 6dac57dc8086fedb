import java.io.IOException;
import java.lang.reflect.Method;
import java.lang.reflect.Modifier;
import java.nio.file.Files;
import java.nio.file.Path;
import java.util.ArrayList;
import java.util.List;
import java.util.regex.Matcher;
import java.util.regex.Pattern;

/** README.md names every call with its refusals, and what its example says is what the calls answer. */
public final class ReadmeTest {
    // as the promises name them, in their order
    private static final String[] REFUSALS = {
        "pack BAD FULL", "run BAD FULL", "at BAD", "guess BAD -11", "slip BAD", "cut BAD", "shuffle BAD",
        "told -1000000", "exact NO", "leak BAD FULL", "shut BAD", "gives BAD", "counts BAD", "screen BAD FULL",
        "plan BAD", "weighs BAD", "feed BAD FULL", "text FULL", "force BAD", "series NO", "best BAD", "falls NO",
        "mixed BAD", "image", "back STATE", "count BAD", "sheet BAD -14", "cell BAD -11 -12", "copy BAD -11 -13 -12",
        "runs BAD -13 -11 -12", "taken BAD -11 -13",
    };
    private static final String[] ANSWERS = {
        "`NONE`, -1,", "`BAD`, -2 ", "`STATE`, -3 ", "`FULL`, -4 ", "`NO`, -4611686018427387904 ",
    };
    private static final Pattern REFUSAL = Pattern.compile("`([A-Z]+)`|(-\\d+)");
    private static final Pattern EXAMPLE = Pattern.compile(" {4}x\\.(\\w+)\\((.*)\\); +// (-?\\d+)(:.*)?");

    public static void main(String[] args) throws IOException, ReflectiveOperationException {
        List<String> lines = Files.readAllLines(Path.of("README.md"));
        calls(lines);
        refusals(lines);
        example(lines);
        howItIsMadeAndTested(String.join("\n", lines));
        Check.end();
    }

    private static void calls(List<String> lines) {
        for (Method method : FiveCards.class.getDeclaredMethods()) {
            if (Modifier.isPublic(method.getModifiers())) {
                Pattern row = Pattern.compile("\\| `" + method.getReturnType() + " " + written(method) + "` \\|.*");
                int found = 0;
                for (String line : lines) {
                    found += row.matcher(line).matches() ? 1 : 0;
                }
                Check.due("rows of README.md for " + method.getName(), found, 1);
            }
        }
    }

    private static String written(Method method) {
        StringBuilder text = new StringBuilder(method.getName()).append("\\(");
        for (Class<?> type : method.getParameterTypes()) {
            text.append(text.toString().endsWith("(") ? "" : ", ").append(type).append(" \\w+");
        }
        return text.append("\\)").toString();
    }

    private static void refusals(List<String> lines) {
        List<String> found = new ArrayList<>();
        for (String line : lines) {
            String[] cells = line.split(" \\| ");
            Matcher call = Pattern.compile("\\| `\\w+ (\\w+)\\(.*").matcher(cells[0]);
            if (call.matches()) {
                found.add(call.group(1) + refusalsIn(cells[cells.length - 1]));
            }
        }
        Check.holds("the refusals in README.md are " + List.of(REFUSALS) + " but " + found,
            found.equals(List.of(REFUSALS)));
    }

    private static String refusalsIn(String cell) {
        StringBuilder text = new StringBuilder();
        Matcher refusal = REFUSAL.matcher(cell);
        while (refusal.find()) {
            text.append(' ').append(refusal.group(1) == null ? refusal.group(2) : refusal.group(1));
        }
        return text.toString();
    }

    private static void example(List<String> lines) throws ReflectiveOperationException {
        FiveCards x = new FiveCards();
        int answered = 0;
        for (String line : lines) {
            Matcher call = EXAMPLE.matcher(line);
            if (call.matches()) {
                String name = call.group(1) + "(" + call.group(2) + ") in README.md";
                Check.due(name, answer(x, call.group(1), call.group(2)), Long.parseLong(call.group(3)));
                answered++;
            } else {
                Check.holds(line + " says what it answers", !line.startsWith("    x."));
            }
        }
        Check.holds("README.md has an example", answered > 0);
    }

    private static long answer(FiveCards x, String name, String arguments) throws ReflectiveOperationException {
        String[] words = arguments.isEmpty() ? new String[0] : arguments.split(", ");
        for (Method method : FiveCards.class.getDeclaredMethods()) {
            if (method.getName().equals(name) && method.getParameterCount() == words.length) {
                return ((Number) method.invoke(x, values(method, words))).longValue();
            }
        }
        throw new NoSuchMethodException(name + " in README.md");
    }

    private static Object[] values(Method method, String[] words) {
        Object[] values = new Object[words.length];
        for (int k = 0; k < words.length; k++) {
            boolean isLong = method.getParameterTypes()[k] == long.class;
            // what is long is written as Java asks it: with an L, where no int holds it
            if (isLong && words[k].endsWith("L")) {
                values[k] = Long.parseLong(words[k].substring(0, words[k].length() - 1));
            } else if (isLong) {
                values[k] = (long) Integer.parseInt(words[k]);
            } else {
                values[k] = Integer.parseInt(words[k]);
            }
        }
        return values;
    }

    private static void howItIsMadeAndTested(String page) {
        for (String answer : ANSWERS) {
            Check.holds("README.md says what " + answer + " is", page.contains(answer));
        }
        for (int k = 11; k <= 14; k++) {
            Check.holds("README.md says what -" + k + " is", page.contains("\n| -" + k + " | "));
        }
        Check.holds("README.md says how an object is made", page.contains("\n    FiveCards x = new FiveCards();\n"));
        Check.holds("README.md says how the tests are run", page.contains("\n    .ci/run\n"));
    }
}
