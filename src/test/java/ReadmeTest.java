import java.io.IOException;
import java.lang.reflect.InvocationTargetException;
import java.lang.reflect.Method;
import java.lang.reflect.Modifier;
import java.nio.file.Files;
import java.nio.file.Path;
import java.util.ArrayList;
import java.util.List;
import java.util.TreeSet;
import java.util.regex.Matcher;
import java.util.regex.Pattern;

/** README.md tells the truth: its example is run, and its table of the methods is compared with the class. */
public final class ReadmeTest {
    private static final String MADE = "PatternWatch watch = new PatternWatch();";
    private static final Pattern TYPED = Pattern.compile("typeAll\\(watch, \"(.*)\"\\); +// true, for each character");
    private static final Pattern CALL = Pattern.compile("watch\\.(\\w+)\\((.*)\\); +// (.*)");
    private static final Pattern ANSWER = Pattern.compile("(throws \\w+|-?\\d+|true|false): .*");
    private static final Pattern ROW = Pattern.compile("\\| `\\w+ (\\w+)\\(.*\\)` \\|.*\\|(.*)\\|");
    private static final Pattern EXCEPTION = Pattern.compile("`(\\w+Exception)`");

    public static void main(String[] args) throws IOException {
        List<String> readme = Files.readAllLines(Path.of("README.md"));
        TreeSet<String> called = runExample(readme.subList(readme.indexOf(MADE) + 1, readme.size()));
        for (Method m : PatternWatch.class.getDeclaredMethods()) {
            if (Modifier.isPublic(m.getModifiers())) {
                Check.due("the example calls " + m.getName(), true, called.contains(m.getName()));
                Check.same("what " + m.getName() + " throws", "[" + declared(m) + "]", told(readme, m).toString());
            }
        }
        Check.end();
    }

    /** Every line of the example has to be a call that can be made; the names of those called. */
    private static TreeSet<String> runExample(List<String> lines) {
        PatternWatch watch = new PatternWatch();
        TreeSet<String> called = new TreeSet<>();
        for (String line : lines.subList(0, lines.indexOf("```"))) {
            Matcher typed = TYPED.matcher(line);
            Matcher call = CALL.matcher(line);
            if (typed.matches()) {
                Check.typeAll(watch, typed.group(1));
            } else if (call.matches()) {
                called.add(call.group(1));
                Check.same(line, answerTold(call.group(3)), answerOf(watch, call.group(1), call.group(2)));
            } else {
                Check.due("a call in: " + line, true, false);
            }
        }
        return called;
    }

    private static String answerTold(String comment) {
        Matcher answer = ANSWER.matcher(comment);
        return answer.matches() ? answer.group(1) : "no answer";
    }

    private static String answerOf(PatternWatch watch, String name, String written) {
        List<Object> arguments = new ArrayList<>();
        for (String part : written.split(", *")) {
            if (part.startsWith("'")) {
                arguments.add(part.charAt(1));
            } else if (!part.isEmpty()) {
                arguments.add(Integer.parseInt(part));
            }
        }
        try {
            Object answer = method(name).invoke(watch, arguments.toArray());
            return answer == null ? "no answer" : answer.toString();
        } catch (InvocationTargetException e) {
            return "throws " + e.getCause().getClass().getSimpleName();
        } catch (IllegalAccessException e) {
            return name + " cannot be called";
        }
    }

    private static Method method(String name) {
        for (Method m : PatternWatch.class.getMethods()) {
            if (m.getName().equals(name)) {
                return m;
            }
        }
        throw new IllegalArgumentException("no method " + name);
    }

    private static TreeSet<String> declared(Method m) {
        TreeSet<String> names = new TreeSet<>();
        for (Class<?> thrown : m.getExceptionTypes()) {
            names.add(thrown.getSimpleName());
        }
        return names;
    }

    /** The exceptions that each row of the table about this method names; there should be one such row. */
    private static List<TreeSet<String>> told(List<String> readme, Method m) {
        List<TreeSet<String>> rows = new ArrayList<>();
        for (String line : readme) {
            Matcher row = ROW.matcher(line);
            if (row.matches() && row.group(1).equals(m.getName())) {
                TreeSet<String> names = new TreeSet<>();
                Matcher exception = EXCEPTION.matcher(row.group(2));
                while (exception.find()) {
                    names.add(exception.group(1));
                }
                rows.add(names);
            }
        }
        return rows;
    }
}
