import java.io.IOException;
import java.lang.reflect.Method;
import java.lang.reflect.Modifier;
import java.nio.file.Files;
import java.nio.file.Path;
import java.util.ArrayList;
import java.util.List;
import java.util.Set;
import java.util.TreeSet;
import java.util.regex.Matcher;
import java.util.regex.Pattern;
import java.util.stream.Collectors;
import java.util.stream.Stream;

/** What README.md says is true of the project: its example, its calls, what status() tells of, its tests. */
public final class ReadmeTest {
    private static final Pattern EXAMPLE = Pattern.compile("x\\.(\\w+)\\((.*?)\\); +// (-?\\d+): .+");
    private static final Pattern CALL = Pattern.compile("`(\\w+)\\(([^)`]*)\\)`");
    private static final Pattern ROW = Pattern.compile("\\| (\\w+Test) \\| .+");
    private static final Check check = new Check();

    public static void main(String[] args) throws IOException, ReflectiveOperationException {
        String readme = Files.readString(Path.of("README.md"));
        example(readme);
        callsOfTheTable(readme);
        newObject();
        callsOfStatus(readme);
        refusals();
        tests(readme);
        check.end("ReadmeTest");
    }

    private static String between(String text, String from, String to) {
        int start = text.indexOf(from);
        int end = text.indexOf(to, Math.max(0, start) + from.length());
        check.due("README.md has " + from + " .. " + to, start >= 0 && end >= 0 ? 1 : 0, 1);
        return start >= 0 && end >= 0 ? text.substring(start + from.length(), end) : "";
    }

    private static Method methodNamed(String name) {
        for (Method method : ColoursApart.class.getMethods()) {
            if (method.getName().equals(name)) {
                return method;
            }
        }
        return null;
    }

    /** Each line of the example is called; the number behind it is the answer that is due. */
    private static void example(String readme) throws ReflectiveOperationException {
        check.part("the example");
        ColoursApart x = new ColoursApart();
        String[] lines = between(readme, "```java\n", "```").split("\n");
        check.due("the first line", lines[0].equals("ColoursApart x = new ColoursApart();") ? 1 : 0, 1);
        for (int at = 1; at < lines.length; at++) {
            Matcher line = EXAMPLE.matcher(lines[at]);
            check.due("a line of the example: " + lines[at], line.matches() ? 1 : 0, 1);
            if (line.matches()) {
                Method method = methodNamed(line.group(1));
                Object answer = method.invoke(x, parameters(line.group(2)));
                check.due(lines[at], (Integer) answer, Integer.parseInt(line.group(3)));
            }
        }
        colours(String.join("\n", lines));
    }

    /** A colour that is told both ways is the same. */
    private static void colours(String example) {
        Matcher both = Pattern.compile("// (\\d+): .*(0x[0-9A-F]{6})\n").matcher(example);
        int found = 0;
        while (both.find()) {
            found++;
            check.due(both.group(2), Integer.decode(both.group(2)), Integer.parseInt(both.group(1)));
        }
        check.due("colours told both ways", found, 3);
    }

    private static Object[] parameters(String words) {
        List<Object> values = new ArrayList<>();
        for (String word : words.isEmpty() ? new String[0] : words.split(", ")) {
            if (word.equals("true") || word.equals("false")) {
                values.add(word.equals("true"));
            } else {
                values.add(Integer.decode(word));
            }
        }
        return values.toArray();
    }

    private static void callsOfTheTable(String readme) {
        check.part("what the calls answer");
        Set<String> found = new TreeSet<>();
        Matcher calls = CALL.matcher(between(readme, "| call | answers |", "\n\n"));
        while (calls.find()) {
            int numbers = calls.group(2).isEmpty() ? 0 : calls.group(2).split(", ").length;
            found.add(calls.group(1) + " " + numbers);
        }
        Set<String> due = Stream.of(ColoursApart.class.getDeclaredMethods())
                .filter(method -> Modifier.isPublic(method.getModifiers()))
                .map(method -> method.getName() + " " + method.getParameterCount())
                .collect(Collectors.toCollection(TreeSet::new));
        check.due("calls " + found + ", due are " + due, found.equals(due) ? 1 : 0, 1);
    }

    private static void newObject() {
        check.part("making an object");
        ColoursApart x = new ColoursApart();
        check.due("an empty house", x.count(0), 0);
        check.due("no pairs", x.count(2), 0);
        check.due("no sheets", x.count(3), 0);
        for (int k = 0; k < 3; k++) {
            check.due("no image " + k, x.back(k), -6);
        }
        check.due("PLAIN alone", x.sights(1), 1);
        check.due("5 levels", x.levels(5), 5);
        check.due("3 levels of the grid", x.grid(3), 3);
        check.due("weights", x.distance(0, 0, 0x010203), 14);
        for (int sight = 1; sight <= 3; sight++) {
            check.due("a weak sight", x.seen(sight, 0x345678), 0x345678);
        }
    }

    /** The calls that the page names are those of which status() tells, and no others. */
    private static void callsOfStatus(String readme) throws ReflectiveOperationException {
        check.part("status() tells of these calls alone");
        Set<String> found = new TreeSet<>();
        Matcher names = Pattern.compile("`(\\w+)`").matcher(between(readme, "tells of these calls alone:", "."));
        while (names.find()) {
            found.add(names.group(1));
        }
        Set<String> due = new TreeSet<>();
        for (Method method : ColoursApart.class.getDeclaredMethods()) {
            if (Modifier.isPublic(method.getModifiers()) && changesStatus(method)) {
                due.add(method.getName());
            }
        }
        check.due("calls " + found + ", due are " + due, found.equals(due) ? 1 : 0, 1);
    }

    /** Whether it leaves -3 of a write() ahead of it, with numbers that no call takes. */
    private static boolean changesStatus(Method method) throws ReflectiveOperationException {
        ColoursApart x = new ColoursApart();
        x.sheet(0, 0, 0);
        x.write(0, 0, 0);
        Object[] values = new Object[method.getParameterCount()];
        for (int i = 0; i < values.length; i++) {
            values[i] = method.getParameterTypes()[i] == int.class ? (Object) Integer.MIN_VALUE : (Object) true;
        }
        method.invoke(x, values);
        return x.status() != -3;
    }

    private static void refusals() {
        check.part("how a refused call is told");
        ColoursApart x = new ColoursApart();
        check.refused("-1", x, x.levels(1), -1);
        check.refused("-2: no such colour", x, x.fix(0, true), -2);
        check.refused("-2: the sheet is missing", x, x.write(0, 0, 0), -2);
        x.sheet(0, 0, 1);
        check.refused("-3", x, x.write(0, 1, 0), -3);
        check.refused("-4", x, x.sheet(0, 0, -1), -4);
        check.due("the sheet is taken away", x.count(3), 0);
        for (int i = 0; i < 12; i++) {
            x.add(0, true);
        }
        check.refused("-5", x, x.add(0, true), -5);
        check.refused("-6", x, x.set(0, 0), -6);
        check.due("of a colour that is not in the house", x.of(12, 0), -2);
        check.due("group of one that is not", x.group(0, 0, 12), -2);
        check.due("of with both numbers wrong", x.of(12, 9), -2);
        check.taken("a settle that got stuck", x, x.settle(1), 0);
        check.due("stuck()", x.stuck(), 1);
    }

    private static void tests(String readme) throws IOException {
        check.part("the tests");
        Set<String> found = new TreeSet<>();
        Matcher rows = ROW.matcher(readme);
        while (rows.find()) {
            found.add(rows.group(1) + ".java");
        }
        try (Stream<Path> files = Files.list(Path.of("src/test/java"))) {
            Set<String> due = files.map(file -> file.getFileName().toString())
                    .collect(Collectors.toCollection(TreeSet::new));
            check.due("tests " + found + ", due are " + due, found.equals(due) ? 1 : 0, 1);
        }
        Matcher paths = Pattern.compile("`((?:src|\\.ci)/[\\w/.]+)`").matcher(readme);
        while (paths.find()) {
            check.due(paths.group(1) + " is there", Files.exists(Path.of(paths.group(1))) ? 1 : 0, 1);
        }
    }
}
