import java.io.IOException;
import java.lang.reflect.Constructor;
import java.lang.reflect.Field;
import java.lang.reflect.Method;
import java.lang.reflect.Modifier;
import java.nio.file.Files;
import java.nio.file.Path;
import java.util.Arrays;
import java.util.List;
import java.util.Set;
import java.util.TreeSet;
import java.util.regex.Pattern;
import java.util.stream.Collectors;

/** The public face is the document's, and the source keeps to the rules of LANGUAGE.md that a text shows. */
public final class FaceTest {
    private static final List<String> FACE = List.of(
            "sheet(int, int, int)", "write(int, int, int)", "weak(int, int, int)", "levels(int)",
            "weights(int, int, int)", "sights(int)", "grid(int)", "place(int)", "seen(int, int)", "light(int)",
            "distance(int, int, int)", "apart(int, int)", "add(int, boolean)", "set(int, int)",
            "fix(int, boolean)", "name(int, int)", "box(int, int, int)", "pair(int, int, int)",
            "contrast(int, int, int)", "unmet()", "of(int, int)", "best(int)", "chosen(int)", "move(int, int)",
            "settle(int)", "stuck()", "ramp(int, int, int)", "step(int)", "rising(int)", "group(int, int, int)",
            "image(int)", "back(int)", "count(int)", "status()");
    private static final Check check = new Check();

    public static void main(String[] args) throws IOException {
        methods();
        otherMembers();
        namesInside();
        words();
        check.end("FaceTest");
    }

    private static void is(String rule, boolean holds) {
        check.due(rule, holds ? 1 : 0, 1);
    }

    private static String face(Method method) {
        String parameters = Arrays.stream(method.getParameterTypes()).map(Class::getName)
                .collect(Collectors.joining(", "));
        return method.getName() + "(" + parameters + ")";
    }

    private static void methods() {
        check.part("the methods");
        Set<String> found = new TreeSet<>();
        for (Method method : ColoursApart.class.getDeclaredMethods()) {
            int modifiers = method.getModifiers();
            if (!Modifier.isPrivate(modifiers)) {
                found.add(face(method));
                is(method + " is public, not static, of int",
                        Modifier.isPublic(modifiers) && !Modifier.isStatic(modifiers) && method.getReturnType() == int.class);
            }
        }
        is("found are " + found, found.equals(new TreeSet<>(FACE)));
    }

    private static void otherMembers() {
        check.part("other members");
        is("the class is public and final", Modifier.isPublic(ColoursApart.class.getModifiers())
                && Modifier.isFinal(ColoursApart.class.getModifiers()));
        Constructor<?>[] constructors = ColoursApart.class.getDeclaredConstructors();
        is("one public constructor without parameters", constructors.length == 1
                && Modifier.isPublic(constructors[0].getModifiers()) && constructors[0].getParameterCount() == 0);
        for (Field field : ColoursApart.class.getDeclaredFields()) {
            is(field + " is private but for NONE",
                    Modifier.isPrivate(field.getModifiers()) != field.getName().equals("NONE"));
        }
    }

    private static void namesInside() {
        check.part("classes inside");
        Set<String> open = FACE.stream().map(f -> f.substring(0, f.indexOf('('))).collect(Collectors.toSet());
        is("at most twelve classes", ColoursApart.class.getDeclaredClasses().length < 12);
        for (Class<?> inside : ColoursApart.class.getDeclaredClasses()) {
            is(inside + " is static", Modifier.isStatic(inside.getModifiers()));
            is(inside + " has at most twenty fields", Arrays.stream(inside.getDeclaredFields())
                    .filter(f -> !Modifier.isStatic(f.getModifiers())).count() <= 20);
            for (Method method : inside.getDeclaredMethods()) {
                is(method + " bears no public name", !open.contains(method.getName()));
                is(method + " has at most seven parameters", method.getParameterCount() <= 7);
            }
        }
    }

    private static void words() throws IOException {
        check.part("words");
        String source = Files.readString(Path.of("src/main/java/ColoursApart.java"));
        String code = source.replaceAll("(?s)/\\*.*?\\*/", "").replaceAll("//[^\n]*", "");
        for (String word : List.of("throw", "throws", "try", "catch", "finally", "synchronized", "assert", "package",
                "import", "protected", "native", "volatile", "long", "double", "float", "Exact")) {
            is("no " + word, !Pattern.compile("\\b" + word + "\\b").matcher(code).find());
        }
        is("no lambda", !code.contains("->"));
        is("no method reference", !code.contains("::"));
        is("characters 1 to 127", source.chars().allMatch(c -> c > 0 && c < 128));
    }
}
