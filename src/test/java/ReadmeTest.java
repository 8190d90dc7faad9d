import java.io.IOException;
import java.lang.reflect.InvocationTargetException;
import java.lang.reflect.Method;
import java.lang.reflect.Modifier;
import java.nio.file.Files;
import java.nio.file.Path;
import java.util.ArrayList;
import java.util.HashMap;
import java.util.List;
import java.util.Map;
import java.util.Set;
import java.util.TreeSet;
import java.util.regex.Matcher;
import java.util.regex.Pattern;

/** What README.md says of the class's answers holds: its calls are made, and its table of signs is tried. */
public final class ReadmeTest extends Dues {
    private static final Pattern OBJECT =
            Pattern.compile("ScoreRoads (\\w+) = new ScoreRoads\\((-?\\d+)\\);(?: +// .*)?");
    private static final Pattern CALL = Pattern.compile("(\\w+)\\.(\\w+)\\(([^)]*)\\); +// (.*)");
    private static final Pattern ANSWER = Pattern.compile("(true|false|NONE|-?\\d+|throws \\w+)(?:: (.*))?");
    private static final Pattern BARS = Pattern.compile("\\d+( \\d+)*");
    private static final Pattern ROW = Pattern.compile("\\| (\\d+) +\\| (\\w+) +\\| (\\d+)(?: \\.\\. (\\d+))?\\b.*");
    private static final Pattern MOST_NOTES = Pattern.compile("at most (\\d+) notes");
    private static final List<String> SIGNS = List.of(
            "START", "END", "ENDING", "SEGNO", "CODA", "FINE", "OVER", "JUMP", "LETTER", "DOUBLE");

    private static final Map<String, ScoreRoads> OBJECTS = new HashMap<>();
    private static final Set<String> CALLED = new TreeSet<>();
    private static final Set<String> THROWN = new TreeSet<>();
    private static List<String> lines = List.of();

    public static void main(String[] args) throws IOException {
        lines = Files.readAllLines(Path.of("README.md"));
        test(ReadmeTest::examples);
        test(ReadmeTest::examplesShowTheWholeFace);
        test(ReadmeTest::tableOfSigns);
        test(ReadmeTest::mostNotes);
        end();
    }

    private static void examples() {
        sentence("Promises 1 to 16, as README.md tells them", "the answer stands behind each call");
        boolean isJava = false;
        for (String line : lines) {
            if (line.startsWith("```")) {
                isJava = line.equals("```java");
                OBJECTS.clear();
            } else if (isJava) {
                example(line);
            }
        }
    }

    private static void example(String line) {
        Matcher object = OBJECT.matcher(line);
        Matcher call = CALL.matcher(line);
        if (object.matches()) {
            OBJECTS.put(object.group(1), new ScoreRoads(Integer.parseInt(object.group(2))));
        } else if (call.matches() && OBJECTS.containsKey(call.group(1))) {
            ScoreRoads x = OBJECTS.get(call.group(1));
            answerDue(line, x, methodOf(call.group(2)), call.group(3).split(", *"), call.group(4));
        } else {
            tell("a line of the examples", line, "an object, or a call of one with its answer");
        }
    }

    private static void answerDue(String line, ScoreRoads x, Method method, String[] words, String told) {
        Matcher answer = ANSWER.matcher(told);
        boolean isAnswer = answer.matches();
        String got = outcomeOf(x, method, words);
        // A call without an answer has only its meaning behind it, if it is not refused.
        String want = isAnswer ? answer.group(1).replace("NONE", "-1") : isVoid(method) ? "null" : "an answer";
        tell(line, got, want);
        CALLED.add(method.getName());
        if (got.startsWith("throws ")) {
            THROWN.add(got.substring("throws ".length()));
        }
        String meaning = isAnswer && answer.group(2) != null ? answer.group(2) : "";
        if (method.getName().equals("plays") && BARS.matcher(meaning).matches()) {
            playedDue(line, meaning, x);
        }
    }

    private static boolean isVoid(Method method) {
        return method.getReturnType() == void.class;
    }

    private static Method methodOf(String name) {
        for (Method method : ScoreRoads.class.getDeclaredMethods()) {
            if (method.getName().equals(name) && Modifier.isPublic(method.getModifiers())) {
                return method;
            }
        }
        throw new IllegalArgumentException("no such method: " + name);
    }

    private static String outcomeOf(ScoreRoads x, Method method, String[] words) {
        try {
            return String.valueOf(method.invoke(x, arguments(method, words)));
        } catch (InvocationTargetException e) {
            return "throws " + e.getCause().getClass().getSimpleName();
        } catch (IllegalAccessException e) {
            return "can't be called";
        }
    }

    private static Object[] arguments(Method method, String[] words) {
        Class<?>[] types = method.getParameterTypes();
        Object[] arguments = new Object[types.length];
        for (int a = 0; a < types.length; a++) {
            if (types[a] == boolean.class) {
                arguments[a] = Boolean.valueOf(words[a]);
            } else if (types[a] == long.class) {
                arguments[a] = Long.valueOf(words[a]);
            } else {
                arguments[a] = Integer.valueOf(words[a]);
            }
        }
        return arguments;
    }

    private static void examplesShowTheWholeFace() {
        sentence("The public face, as README.md tells it", "how to use the class");
        Set<String> face = new TreeSet<>();
        for (Method method : ScoreRoads.class.getDeclaredMethods()) {
            if (Modifier.isPublic(method.getModifiers())) {
                face.add(method.getName());
            }
        }
        tell("methods that are called", CALLED.toString(), face.toString());
        Set<String> exceptions =
                new TreeSet<>(Set.of(ARGUMENT.getSimpleName(), STATE.getSimpleName(), INDEX.getSimpleName()));
        tell("exceptions that are shown", THROWN.toString(), exceptions.toString());
    }

    private static void tableOfSigns() {
        sentence("Promise 3, as README.md tells it", "the kinds, and the values of each");
        List<String> signs = new ArrayList<>();
        for (String line : lines) {
            Matcher row = ROW.matcher(line);
            if (row.matches()) {
                due("kind of " + row.group(2), Integer.parseInt(row.group(1)), signs.size());
                int least = Integer.parseInt(row.group(3));
                int most = row.group(4) == null ? least : Integer.parseInt(row.group(4));
                valuesDue(signs.size(), least, most);
                signs.add(row.group(2));
            }
        }
        tell("rows of the table", signs.toString(), SIGNS.toString());
        throwsDue("a kind more", ARGUMENT, () -> doSign(new ScoreRoads(1), 0, signs.size(), 1));
    }

    private static void valuesDue(int kind, int least, int most) {
        for (int v = least - 20; v <= most + 20; v++) {
            int value = v;
            if (value >= least && value <= most) {
                due("sign(0, " + kind + ", " + value + ")", doSign(new ScoreRoads(1), 0, kind, value), 1);
            } else if (value != 0) {
                throwsDue("sign(0, " + kind + ", " + value + ")", ARGUMENT,
                        () -> doSign(new ScoreRoads(1), 0, kind, value));
            }
        }
    }

    private static void mostNotes() {
        sentence("Promise 5, as README.md tells it", "at most 40 notes, those of all parts together");
        Matcher told = MOST_NOTES.matcher(String.join(" ", lines));
        int most = told.find() ? Integer.parseInt(told.group(1)) : 0;
        ScoreRoads x = new ScoreRoads(20);
        for (int n = 0; n < most; n++) {
            due("note " + n, x.note(n % 3, n % 20, 0, 1, n, false), n + 1);
        }
        throwsDue("a note more than " + most, STATE, () -> x.note(0, 0, 0, 1, 127, false));
    }
}
