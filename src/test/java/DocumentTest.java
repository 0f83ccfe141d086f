import java.io.IOException;
import java.lang.reflect.Field;
import java.lang.reflect.Method;
import java.lang.reflect.Modifier;
import java.util.Arrays;
import java.util.List;
import java.util.Set;
import java.util.TreeSet;
import java.util.stream.Collectors;

/**
 * The document from its first line: each sentence in its order, with checks of its own.
 * A sentence of ../shared/DOC.md that is not told here makes this test fail.
 */
public final class DocumentTest {
    private static final int WHITE = 0xFFFFFF;
    private static final Check check = new Check();

    public static void main(String[] args) throws IOException {
        Document document = new Document(check);
        whatItIs(document);
        ownColours(document);
        choices(document);
        calls(document);
        publicFace(document);
        new SentencesOfTerms(check, document).readAll();
        new SentencesOfPromises(check, document).readAll();
        notPromised(document);
        document.end();
        check.end("DocumentTest");
    }

    private static void whatItIs(Document document) {
        document.passOver("# ColoursApart ## What it is");
        document.says("A chooser of colours that stay apart: for weak eyes, in print and in grey;");
        ColoursApart x = new ColoursApart();
        int red = 0xC80000;
        int green = 0x006600;
        check.due("apart in PLAIN", x.apart(red, green), 200 * 200 + 102 * 102);
        x.sights(16);
        check.due("in grey 59 and 59", x.apart(red, green), 0);
        x.sights(32);
        check.due("in print 191 and 128", x.apart(red, green), 191 * 191 + 128 * 128);
        Busy.fill(x, 0, 2, 500, 500, 0, 500, 500);
        x.weak(1, 0, 0);
        x.sights(2);
        check.due("for weak eyes 100 and 51", x.apart(red, green), 2 * 49 * 49);
    }

    private static void ownColours(Document document) {
        document.says("a house's own colours that never move,");
        ColoursApart x = new ColoursApart();
        x.add(0x112233, true);
        x.add(0x112234, true);
        x.set(0, 5);
        x.move(0, 2);
        x.settle(50000);
        check.due("the first", x.of(0, 0), 0x112233);
        check.due("the second", x.of(1, 0), 0x112234);
        document.says("names that a colour must keep,");
        ColoursApart y = new ColoursApart();
        y.add(0xA00000, false);
        y.box(3, 0x800000, 0xFF2020);
        y.name(0, 3);
        check.due("green has another name", y.set(0, 0x00FF00), -1);
        check.due("a red has this one", y.set(0, 0xF01010), 0xA00000);
        document.says("pairs that must contrast;");
        ColoursApart z = new ColoursApart();
        z.add(0, false);
        z.add(0x202020, false);
        z.pair(0, 1, 40);
        check.due("45 / 13 is below 4", z.unmet(), 0);
        z.set(1, 0x303030);
        check.due("61 / 13 is above 4", z.unmet(), -1);
    }

    private static void choices(Document document) {
        document.says("the best set of a grid gone through whole,");
        ColoursApart x = new ColoursApart();
        check.due("black and white, the first and the last place", x.best(2), 195075);
        check.due("the last place", x.chosen(1), 26);
        document.says("the nearest change that brings a colour away from the others,");
        x.add(0, true);
        x.add(0x000060, false);
        check.due("blue 127 is 31 away", x.move(1, 10000), 31 * 31);
        check.due("where it is", x.of(1, 0), 0x00007F);
        document.says("ramps that grow even to the eye,");
        x.ramp(0x300000, 0xFFFFC0, 6);
        for (int j = 0; j < 6; j++) {
            int due = x.light(0x300000) + (x.light(0xFFFFC0) - x.light(0x300000)) * j / 5;
            check.due("LIGHT of step " + j, x.light(x.step(j)), due);
        }
        document.says("and what an eye melts together.");
        x.add(0xC80000, false);
        x.add(0x006600, false);
        check.due("in grey alike", x.group(4, 1, 3), 2);
        check.due("in PLAIN not", x.group(0, 1, 3), 3);
    }

    private static void calls(Document document) {
        document.says("An object is used for at most 512 calls after it has been made; what later calls answer is free.");
        ColoursApart x = new ColoursApart();
        for (int call = 1; call < 512; call++) {
            check.due("call " + call, x.levels(2 + call % 15), call == 1 ? 5 : 2 + (call - 1) % 15);
        }
        check.due("call 512", x.levels(5), 2 + 511 % 15);
    }

    /** The document's own lines are compared with the class's members. */
    private static void publicFace(Document document) {
        document.passOver("## The public face ```java");
        if (!document.isThere()) {
            return;
        }
        String[] lines = document.readUpTo("```").split("(?<=[;{}]) ?");
        check.part("The public face");
        check.due("the class", lines[0].equals("public final class ColoursApart {")
                && Modifier.toString(ColoursApart.class.getModifiers()).equals("public final") ? 1 : 0, 1);
        Set<String> due = new TreeSet<>();
        for (String line : lines) {
            if (line.endsWith(";")) {
                due.add(line.replaceAll(" (\\w+)(?=[,)])", "").replaceAll(" = .*", ";"));
            }
        }
        check.due("lines of the face: " + due, due.size(), lines.length - 2);
        Set<String> found = openMembers();
        check.due("found are " + found + ", due are " + due, found.equals(due) ? 1 : 0, 1);
    }

    private static Set<String> openMembers() {
        Set<String> found = new TreeSet<>();
        for (Method method : ColoursApart.class.getDeclaredMethods()) {
            if (!Modifier.isPrivate(method.getModifiers())) {
                found.add(told(method.getModifiers(), method.getReturnType() + " " + method.getName(),
                        method.getParameterTypes()));
            }
        }
        Arrays.stream(ColoursApart.class.getDeclaredConstructors())
                .forEach(made -> found.add(told(made.getModifiers(), "ColoursApart", made.getParameterTypes())));
        for (Field field : ColoursApart.class.getDeclaredFields()) {
            if (!Modifier.isPrivate(field.getModifiers())) {
                found.add(Modifier.toString(field.getModifiers()) + " " + field.getType() + " " + field.getName() + ";");
            }
        }
        return found;
    }

    private static String told(int modifiers, String name, Class<?>[] parameters) {
        String types = Arrays.stream(parameters).map(Class::getName).collect(Collectors.joining(", "));
        return Modifier.toString(modifiers) + " " + name + "(" + types + ");";
    }

    private static void notPromised(Document document) {
        document.passOver("## Not promised How the state is held inside the object is free, as are the speed of each"
                + " call, the text of toString and the behaviour of equals and hashCode. Use of one object from several"
                + " threads at once is not promised to be safe.");
        document.says("Nothing is promised beyond the answers and state changes described above,");
        for (int look = 0; look < Busy.looks(); look++) {
            List<Integer> due = Busy.look(look, Busy.make());
            ColoursApart x = Busy.make();
            callOnAnother();
            check.same("calls on another object change nothing, look " + look, Busy.look(look, x), due);
        }
        document.passOver("and nothing about an object after its 512th call.");
    }

    private static void callOnAnother() {
        ColoursApart x = new ColoursApart();
        x.add(5, true);
        x.add(6, true);
        x.levels(9);
        x.weights(0, 0, 1);
        x.sights(4);
        x.box(7, 3, 3);
        x.pair(0, 1, 210);
        x.image(2);
        x.sheet(3, 0, 5);
        x.best(2);
        x.ramp(0, WHITE, 2);
        x.settle(1);
    }
}
