import java.io.IOException;
import java.lang.reflect.InvocationTargetException;
import java.lang.reflect.Method;
import java.lang.reflect.Modifier;
import java.nio.file.Files;
import java.nio.file.Path;
import java.util.Set;
import java.util.TreeSet;
import java.util.regex.Matcher;
import java.util.regex.Pattern;
import java.util.stream.Collectors;
import java.util.stream.Stream;

/** What README.md says: its example is run call by call, and its tables name what there is. */
public final class ReadmeTest {
    private static final Path README = Path.of("README.md");
    private static final Path TESTS = Path.of("src/test/java");
    private static final Path RUN = Path.of(".ci/run");
    private static final String MADE = "ChanceGame x = new ChanceGame();";
    /** A call, and behind it the answer, a colon and some words. */
    private static final Pattern CALL = Pattern.compile("x\\.(\\w+)\\((.*)\\); +// (\\S+): (.+)");
    private static final Pattern NAMED_CALL = Pattern.compile("`(\\w+)\\(([\\w, ]*)\\)`");
    private static final Pattern NAMED_TEST = Pattern.compile("`(\\w+Test)`");

    private final Check check = new Check();
    private final ChanceGame x = new ChanceGame();
    private final Set<String> called = new TreeSet<>();

    public static void main(String[] args) throws IOException {
        new ReadmeTest().run();
    }

    private void run() throws IOException {
        String text = Files.readString(README);
        example(between(text, "```java\n", "```"));
        check.due("calls of the example", called.toString(), face(false).toString());
        check.due("calls of the table", named(NAMED_CALL, text).toString(), face(true).toString());
        check.due("the constants", text.contains("`NONE`, `MIXED` and `MANY` are " + ChanceGame.NONE + ", "
            + ChanceGame.MIXED + " and " + ChanceGame.MANY), true);
        check.due("tests of the table", named(NAMED_TEST, between(text, "| test |", "\n\n")).toString(), tests().toString());
        check.due("how to run the tests", between(text, "```sh\n", "\n```"), RUN.toString());
        check.due(RUN + " can be run", Files.isExecutable(RUN), true);
        check.end();
    }

    private static String between(String text, String before, String behind) {
        int from = text.indexOf(before);
        int to = from < 0 ? -1 : text.indexOf(behind, from + before.length());
        return to < 0 ? "" : text.substring(from + before.length(), to);
    }

    private void example(String lines) {
        boolean made = false;
        for (String line : lines.split("\n")) {
            Matcher call = CALL.matcher(line);
            if (line.equals(MADE)) {
                made = true;
            } else if (made && call.matches()) {
                called.add(call.group(1));
                dueAnswer(line, call);
            } else {
                check.due("a line that is no call: " + line, true, false);
            }
        }
    }

    private void dueAnswer(String line, Matcher call) {
        String[] given = call.group(2).isEmpty() ? new String[0] : call.group(2).split(", ");
        for (Method method : ChanceGame.class.getMethods()) {
            if (method.getName().equals(call.group(1)) && method.getParameterCount() == given.length) {
                check.due(line, answer(method, given), call.group(3));
                if (method.getName().equals("type")) {
                    dueTyped(line, given, call.group(4));
                }
                return;
            }
        }
        check.due("no such call: " + line, true, false);
    }

    private String answer(Method method, String[] given) {
        Object[] arguments = new Object[given.length];
        for (int k = 0; k < given.length; k++) {
            long number = Long.decode(given[k].replace("L", ""));
            if (method.getParameterTypes()[k] == long.class) {
                arguments[k] = number;
            } else {
                arguments[k] = (int) number;
            }
        }
        try {
            return String.valueOf(method.invoke(x, arguments));
        } catch (InvocationTargetException e) {
            return e.getCause().getClass().getSimpleName();
        } catch (IllegalAccessException e) {
            return e.toString();
        }
    }

    /** The words begin with the characters that the number is for; a blank they name. */
    private void dueTyped(String line, String[] given, String words) {
        long characters = Long.decode(given[0].replace("L", ""));
        int n = Integer.parseInt(given[1]);
        StringBuilder typed = new StringBuilder();
        for (int k = n - 1; k >= 0; k--) {
            typed.append((char) (characters >> 8 * k & 255));
        }
        boolean said = typed.toString().equals(" ") ? words.contains("blank") : words.startsWith(typed.toString());
        check.due("the characters of " + line, said, true);
    }

    /** The names of the public methods, with the count of their parameters if that is asked for. */
    private static Set<String> face(boolean counted) {
        Set<String> names = new TreeSet<>();
        for (Method method : ChanceGame.class.getDeclaredMethods()) {
            if (Modifier.isPublic(method.getModifiers())) {
                names.add(method.getName() + (counted ? " " + method.getParameterCount() : ""));
            }
        }
        return names;
    }

    private static Set<String> named(Pattern pattern, String text) {
        Set<String> names = new TreeSet<>();
        Matcher matcher = pattern.matcher(text);
        while (matcher.find()) {
            names.add(matcher.group(1) + (matcher.groupCount() > 1 ? " " + parameters(matcher.group(2)) : ""));
        }
        return names;
    }

    private static int parameters(String listed) {
        return listed.isEmpty() ? 0 : listed.split(",").length;
    }

    private static Set<String> tests() throws IOException {
        try (Stream<Path> files = Files.list(TESTS)) {
            return files.map(file -> file.getFileName().toString()).filter(name -> name.endsWith("Test.java"))
                .map(name -> name.substring(0, name.length() - ".java".length()))
                .collect(Collectors.toCollection(TreeSet::new));
        }
    }
}
