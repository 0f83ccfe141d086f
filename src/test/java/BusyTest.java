/** The looks at a busy object see each change, so that "changes nothing" in the other tests says something. */
public final class BusyTest {
    private static final int WHITE = 0xFFFFFF;
    private static final Check check = new Check();

    public static void main(String[] args) {
        theBusyObject();
        sheets();
        eyes();
        house();
        kept();
        check.end("BusyTest");
    }

    private static void seenByALook(String name, Edges.Call change) {
        int differing = 0;
        for (int look = 0; look < Busy.looks(); look++) {
            ColoursApart x = Busy.make();
            change.on(x);
            if (!Busy.look(look, x).equals(Busy.look(look, Busy.make()))) {
                differing++;
            }
        }
        check.due(name + " is seen by a look", differing > 0 ? 1 : 0, 1);
    }

    private static void theBusyObject() {
        check.part("the busy object");
        ColoursApart x = Busy.make();
        check.due("COLOURS", x.count(0), 5);
        check.due("FIXED ones", x.count(1), 2);
        check.due("PAIRS", x.count(2), 3);
        check.due("SHEETS", x.count(3), 3);
        check.due("places", x.count(4), 64);
        check.due("unmet()", x.unmet(), 2);
        check.due("NAME of 2", x.of(2, 2), 2);
        check.due("NAME of 3", x.of(3, 2), 5);
        check.due("stuck()", x.stuck(), 1);
        check.due("nothing was moved", x.of(4, 0), 0x0000FF);
        check.due("chosen(2) is there", x.chosen(2) > 0 ? 1 : 0, 1);
        check.due("chosen(3)", x.chosen(3), -1);
        check.due("step(4)", x.step(4) > 0 ? 1 : 0, 1);
        check.due("step(5)", x.step(5), -1);
        check.due("status()", x.status(), 0);
    }

    private static void sheets() {
        check.part("changes of SHEETS");
        for (int s = 0; s < 4; s++) {
            int sheet = s;
            seenByALook("sheet 0 long", x -> x.sheet(sheet, 0, 0));
            seenByALook("sheet 30 long", x -> x.sheet(sheet, 1, 30));
        }
        seenByALook("another sort", x -> {
            x.sheet(1, 2, 9);
            Busy.fill(x, 1, 2, -1000, 5, 1999, 5, 900, -5, 4, 6, 700);
            return 0;
        });
        seenByALook("missing", x -> x.sheet(0, 0, -1));
        seenByALook("a byte", x -> x.write(0, 11, 90));
        seenByALook("a short", x -> x.write(1, 0, 1000));
        seenByALook("an int", x -> x.write(2, 58, 1000));
        seenByALook("3001 is gone", x -> x.write(2, 30, 0));
    }

    private static void eyes() {
        check.part("changes of SIGHTS");
        for (int sight = 1; sight < 4; sight++) {
            int weak = sight;
            seenByALook("weak", x -> x.weak(weak, 1, 9));
        }
        seenByALook("levels", x -> x.levels(8));
        seenByALook("red's weight", x -> x.weights(3, 3, 4));
        seenByALook("green's weight", x -> x.weights(2, 2, 4));
        seenByALook("blue's weight", x -> x.weights(2, 3, 3));
        for (int bit = 0; bit < 6; bit++) {
            int bits = 1 + 2 + 16 + 32 ^ 1 << bit;
            seenByALook("sights", x -> x.sights(bits));
        }
        seenByALook("grid", x -> x.grid(2));
    }

    private static void house() {
        check.part("changes of the HOUSE");
        seenByALook("a FREE one more", x -> x.add(0, false));
        seenByALook("a FIXED one more", x -> x.add(WHITE, true));
        seenByALook("set", x -> x.set(4, 0x0000FE));
        for (int i = 0; i < 5; i++) {
            int one = i;
            seenByALook("fix", x -> x.fix(one, one == 1 || one == 2 || one == 4));
            seenByALook("name", x -> x.name(one, one == 2 || one == 3 ? -1 : 0));
        }
        for (int name = 0; name < 8; name++) {
            int one = name;
            seenByALook("a smaller box", x -> x.box(one, 0x404040, WHITE - 1));
            seenByALook("a box that is smaller elsewhere", x -> x.box(one, 1, 0x8080FF));
        }
        seenByALook("the first PAIR's c", x -> x.pair(0, 1, 151));
        seenByALook("the second PAIR's c", x -> x.pair(1, 2, 31));
        seenByALook("the third PAIR's c", x -> x.pair(4, 0, 39));
        seenByALook("a PAIR more", x -> x.pair(3, 4, 10));
    }

    private static void kept() {
        check.part("changes of what is kept");
        for (int k = 0; k < 3; k++) {
            int image = k;
            seenByALook("image", x -> x.image(image));
        }
        seenByALook("back(0)", x -> x.back(0));
        seenByALook("back(1)", x -> x.back(1));
        seenByALook("another BEST SET", x -> x.best(2));
        seenByALook("another RAMP", x -> x.ramp(0x000040, 0xFFFFF0, 6));
        seenByALook("another RAMP of five", x -> x.ramp(0, WHITE, 5));
        seenByALook("stuck() is 0", x -> x.settle(1));
    }
}
