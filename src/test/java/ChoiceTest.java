/** Promises 23 to 31: the best set, moves, ramps, groups. */
public final class ChoiceTest {
    private static final int MIN = Integer.MIN_VALUE;
    private static final int MAX = Integer.MAX_VALUE;
    private static final int WHITE = 0xFFFFFF;
    private static final int FARTHEST = 2000000;
    private static final Check check = new Check();

    public static void main(String[] args) {
        best();
        bestRefused();
        bestWithFixed();
        bestWithoutDistance();
        chosen();
        moveRefused();
        moveNearest();
        moveInBox();
        moveWithPairs();
        settle();
        settleOfThree();
        settleStuck();
        fullHouse();
        ramp();
        rampEdges();
        step();
        rising();
        group();
        groupChain();
        check.end("ChoiceTest");
    }

    private static void dueSet(String call, ColoursApart x, int... places) {
        for (int k = 0; k < places.length; k++) {
            check.due(call + ": chosen(" + k + ")", x.chosen(k), places[k]);
        }
        check.due(call + ": chosen(" + places.length + ")", x.chosen(places.length), -1);
    }

    private static void best() {
        check.part("promise 23");
        ColoursApart x = new ColoursApart();
        check.taken("best(1)", x, x.best(1), FARTHEST);
        dueSet("best(1)", x, 0);
        check.taken("best(2)", x, x.best(2), 195075);
        dueSet("best(2)", x, 0, 26);
        check.taken("best(4)", x, x.best(4), 130050);
        dueSet("best(4)", x, 0, 8, 20, 24);
        x.grid(2);
        check.taken("best(5)", x, x.best(5), 65025);
        dueSet("best(5)", x, 0, 1, 2, 3, 4);
        x.grid(4);
        check.taken("best(4) of L 4", x, x.best(4), 130050);
        dueSet("best(4) of L 4", x, 0, 15, 51, 60);
        x.sights(16);
        x.grid(2);
        check.taken("best(3) in GREY", x, x.best(3), 3 * 106 * 106);
        dueSet("best(3) in GREY: 0, 149 or 105, 255", x, 0, 2, 7);
        x.sights(1);
        x.weights(0, 0, 1);
        check.taken("best(2) of blue alone", x, x.best(2), 65025);
        dueSet("best(2) of blue alone", x, 0, 1);
        check.taken("best(3) of blue alone", x, x.best(3), 0);
        dueSet("best(3) of blue alone", x, 0, 1, 2);
    }

    private static void bestRefused() {
        check.part("promise 23: refused");
        ColoursApart x = new ColoursApart();
        x.grid(2);
        x.best(3);
        check.refused("best(0)", x, x.best(0), -1);
        check.refused("best(6)", x, x.best(6), -1);
        check.refused("best(MIN)", x, x.best(MIN), -1);
        x.grid(4);
        check.refused("best(5) of L 4", x, x.best(5), -1);
        dueSet("the latest stays", x, 0, 3, 5);
        check.taken("best(4) of L 4", x, x.best(4), 130050);
        x.grid(3);
        check.taken("best(5) of L 3", x, x.best(5), 255 * 255 + 127 * 127);
        dueSet("best(5) of L 3", x, 0, 5, 15, 19, 26);
    }

    private static void bestWithFixed() {
        check.part("promise 23: FIXED ones");
        ColoursApart x = new ColoursApart();
        x.grid(2);
        x.add(WHITE, false);
        check.taken("FREE ones are not looked at", x, x.best(1), FARTHEST);
        dueSet("best(1)", x, 0);
        x.fix(0, true);
        check.taken("best(1)", x, x.best(1), 195075);
        dueSet("best(1)", x, 0);
        x.add(0x0A0000, true);
        check.taken("of two FIXED ones the nearer", x, x.best(1), 65125);
        dueSet("best(1)", x, 1);
        check.taken("best(2)", x, x.best(2), 65125);
        dueSet("best(2)", x, 1, 2);
        x.add(0x0000FF, true);
        check.taken("0, 1 and 7 are too near", x, x.best(5), 245 * 245);
        dueSet("best(5)", x, 2, 3, 4, 5, 6);
        x.add(0x00FF00, true);
        check.taken("one of five must be at 100", x, x.best(5), 100);
        dueSet("best(5)", x, 0, 3, 4, 5, 6);
    }

    private static void bestWithoutDistance() {
        check.part("promise 23: all alike");
        ColoursApart x = new ColoursApart();
        x.weights(0, 0, 0);
        check.taken("best(5)", x, x.best(5), 0);
        dueSet("best(5)", x, 0, 1, 2, 3, 4);
        x.add(0, true);
        check.taken("best(1)", x, x.best(1), 0);
        dueSet("best(1)", x, 0);
        x.grid(4);
        check.taken("best(4)", x, x.best(4), 0);
        dueSet("best(4)", x, 0, 1, 2, 3);
    }

    private static void chosen() {
        check.part("promise 24");
        ColoursApart x = new ColoursApart();
        check.due("none yet", x.chosen(0), -1);
        x.best(2);
        check.due("chosen(-1)", x.chosen(-1), -1);
        check.due("chosen(MIN)", x.chosen(MIN), -1);
        check.due("chosen(MAX)", x.chosen(MAX), -1);
        check.due("chosen(5)", x.chosen(5), -1);
        dueSet("best(2)", x, 0, 26);
        x.best(5);
        x.best(1);
        dueSet("the latest alone", x, 0);
        x.best(2);
        x.grid(2);
        dueSet("places stay as they were", x, 0, 26);
        x.sights(0);
        x.chosen(0);
        check.due("status() is not of chosen", x.status(), -1);
    }

    private static void moveRefused() {
        check.part("promise 25: refused");
        ColoursApart x = new ColoursApart();
        check.refused("move(0, 5) of none", x, x.move(0, 5), -2);
        check.refused("move(0, 0): -1 goes first", x, x.move(0, 0), -1);
        x.add(0, true);
        x.add(5, false);
        check.refused("move(1, 0)", x, x.move(1, 0), -1);
        check.refused("move(1, FARTHEST + 1)", x, x.move(1, FARTHEST + 1), -1);
        check.refused("move(1, MIN)", x, x.move(1, MIN), -1);
        check.refused("move(2, 5)", x, x.move(2, 5), -2);
        check.refused("move(-1, 5)", x, x.move(-1, 5), -2);
        check.refused("move(0, 5): FIXED", x, x.move(0, 5), -6);
        check.refused("move(0, 0): -1 goes before -6", x, x.move(0, 0), -1);
        check.refused("no such place", x, x.move(1, FARTHEST), -6);
        check.refused("195075 is the most", x, x.move(1, 195076), -6);
        check.due("it stays", x.of(1, 0), 5);
        check.taken("move(1, 195075)", x, x.move(1, 195075), 65025 * 2 + 250 * 250);
        check.due("of(1, 0)", x.of(1, 0), WHITE);
        ColoursApart y = new ColoursApart();
        y.add(7, false);
        check.taken("alone it stays", y, y.move(0, FARTHEST), 0);
        check.due("of(0, 0)", y.of(0, 0), 7);
    }

    private static void moveNearest() {
        check.part("promise 25: the nearest");
        ColoursApart x = new ColoursApart();
        x.grid(2);
        x.add(0x808080, true);
        x.add(0x7F7F7F, false);
        check.taken("3 apart: it stays", x, x.move(1, 3), 0);
        check.due("of(1, 0)", x.of(1, 0), 0x7F7F7F);
        check.taken("of those alike the lower place", x, x.move(1, 4), 127 * 127 * 3);
        check.due("of(1, 0)", x.of(1, 0), 0);
        x.set(1, 0x7F807F);
        check.taken("green is nearer above", x, x.move(1, 4), 127 * 127 * 3);
        check.due("of(1, 0)", x.of(1, 0), 0x00FF00);
        x.add(0x01FE00, false);
        check.taken("away from FREE ones too; black and yellow are alike", x, x.move(2, 40000), 254 * 254 + 1);
        check.due("of(2, 0)", x.of(2, 0), 0);
        x.set(1, 0x000001);
        x.weights(0, 1, 0);
        check.taken("DISTANCE by WEIGHTS: of those alike the lower place", x, x.move(1, 100), 65025);
        check.due("of(1, 0)", x.of(1, 0), 0x00FF00);
        x.set(1, 0xFFFFFF);
        check.taken("itself before those alike", x, x.move(1, 100), 0);
        check.due("of(1, 0)", x.of(1, 0), 0xFFFFFF);
        ColoursApart y = new ColoursApart();
        y.sights(1 + 16);
        y.add(0xFF0000, true);
        y.add(0x008200, false);
        check.due("in GREY they are alike", y.of(1, 3), 0);
        check.due("0x007F00 is 12 apart", y.apart(0xFF0000, 0x007F00), 12);
        check.taken("APART in GREY, DISTANCE in PLAIN", y, y.move(1, 13), 125 * 125);
        check.due("of(1, 0)", y.of(1, 0), 0x00FF00);
    }

    private static void moveInBox() {
        check.part("promise 25: in its box");
        ColoursApart x = new ColoursApart();
        x.grid(2);
        x.add(0, true);
        x.add(0x000001, false);
        x.name(1, 2);
        x.box(2, 0, 0xFF00FE);
        check.taken("blue is not in the box", x, x.move(1, 100), 65025 + 1);
        check.due("of(1, 0)", x.of(1, 0), 0xFF0000);
        x.set(1, 1);
        x.box(2, 0, 0x0000FE);
        check.refused("no place in the box", x, x.move(1, 100), -6);
        check.due("of(1, 0)", x.of(1, 0), 1);
        x.name(1, -1);
        check.taken("without a name", x, x.move(1, 100), 254 * 254);
    }

    private static void moveWithPairs() {
        check.part("promise 25: pairs");
        ColoursApart x = new ColoursApart();
        x.grid(2);
        x.add(0, true);
        x.add(0x000080, false);
        x.add(WHITE, true);
        x.pair(1, 0, 30);
        check.taken("blue is 42 / 13, red 89 / 13", x, x.move(1, 1), 127 * 127);
        check.due("of(1, 0)", x.of(1, 0), 0x0000FF);
        x.pair(0, 1, 60);
        check.taken("cyan and magenta reach 6", x, x.move(1, 1), 65025);
        check.due("cyan is the lower place", x.of(1, 0), 0x00FFFF);
        x.pair(0, 2, 210);
        check.taken("other pairs are not asked", x, x.move(1, 1), 0);
        x.pair(2, 1, 40);
        check.refused("both can't be met", x, x.move(1, 1), -6);
        check.due("of(1, 0)", x.of(1, 0), 0x00FFFF);
        x.pair(2, 1, 20);
        check.taken("red and magenta meet both", x, x.move(1, 1), 2 * 65025);
        check.due("of(1, 0)", x.of(1, 0), 0xFF00FF);
    }

    private static void settle() {
        check.part("promise 26");
        ColoursApart x = new ColoursApart();
        check.refused("settle(0)", x, x.settle(0), -1);
        check.refused("settle(FARTHEST + 1)", x, x.settle(FARTHEST + 1), -1);
        check.refused("settle(MIN)", x, x.settle(MIN), -1);
        check.taken("an empty house", x, x.settle(FARTHEST), 0);
        x.add(5, false);
        check.taken("one colour", x, x.settle(FARTHEST), 0);
        check.due("stuck()", x.stuck(), 0);
        x.add(6, true);
        x.grid(2);
        check.taken("1 is enough", x, x.settle(1), 0);
        check.taken("the later is FIXED: the other is moved", x, x.settle(2), 1);
        check.due("of(0, 0)", x.of(0, 0), 0);
        check.due("of(1, 0)", x.of(1, 0), 6);
        check.due("stuck()", x.stuck(), 0);
        check.taken("36 apart is not below 36", x, x.settle(36), 0);
        check.taken("36 apart is below 37", x, x.settle(37), 1);
        check.due("of(0, 0)", x.of(0, 0), 255);
    }

    private static void settleOfThree() {
        check.part("promise 26: which goes first");
        ColoursApart x = new ColoursApart();
        x.grid(2);
        x.add(0x000010, false);
        x.add(0x000020, false);
        x.add(0x000018, false);
        check.taken("two moves", x, x.settle(1000), 2);
        check.due("0 and 2 are nearest: black is too near to 0", x.of(2, 0), 0x0000FF);
        check.due("then 0 and 1: blue is taken", x.of(1, 0), 0x00FF00);
        check.due("the first stays", x.of(0, 0), 0x10);
        check.due("stuck()", x.stuck(), 0);
        ColoursApart y = new ColoursApart();
        y.add(0x000010, false);
        y.add(0xFF0010, false);
        y.add(0xFF0018, false);
        y.add(0x000018, false);
        y.name(2, 0);
        y.box(0, 0xFF0018, 0xFF0018);
        check.taken("0 and 3 go before 1 and 2", y, y.settle(100), 1);
        check.due("1 and 2 are stuck", y.stuck(), 1);
        check.due("of(3, 0)", y.of(3, 0), 0);
        y.set(3, 0x000019);
        y.set(0, 0x000010);
        check.taken("1 and 2 are nearer by now", y, y.settle(100), 0);
        check.due("stuck()", y.stuck(), 1);
        check.due("of(3, 0)", y.of(3, 0), 0x19);
    }

    private static void settleStuck() {
        check.part("promises 26 and 27");
        ColoursApart x = new ColoursApart();
        x.grid(2);
        x.add(0, true);
        x.add(1, true);
        check.taken("no FREE one", x, x.settle(5), 0);
        check.due("stuck()", x.stuck(), 1);
        check.refused("settle(0)", x, x.settle(0), -1);
        check.due("a refused one is none", x.stuck(), 1);
        check.taken("settle(1)", x, x.settle(1), 0);
        check.due("stuck()", x.stuck(), 0);
        ColoursApart y = new ColoursApart();
        y.grid(2);
        y.add(0, true);
        y.add(0x000002, false);
        y.add(0x000200, false);
        y.name(2, 0);
        y.box(0, 0, 0x000200);
        check.taken("one is moved, the other has no place", y, y.settle(1000), 1);
        check.due("stuck()", y.stuck(), 1);
        check.due("moved ones stay", y.of(1, 0), 255);
        check.due("the other stays too", y.of(2, 0), 0x200);
        check.taken("move does not touch it", y, y.move(1, 1), 0);
        check.due("stuck()", y.stuck(), 1);
        check.taken("again", y, y.settle(1), 0);
        check.due("stuck()", y.stuck(), 0);
    }

    private static void fullHouse() {
        check.part("promises 23, 25 and 26: twelve colours");
        ColoursApart x = new ColoursApart();
        for (int i = 0; i < 12; i++) {
            x.add(0, i == 0);
        }
        check.taken("eleven moves", x, x.settle(16129), 11);
        check.due("stuck()", x.stuck(), 0);
        for (int i = 0; i < 12; i++) {
            check.due("at least 16129 apart", x.of(i, 3) >= 16129 ? 1 : 0, 1);
            check.taken("it stays", x, x.move(i == 0 ? 11 : i, 16129), 0);
            x.fix(i, true);
        }
        check.due("count(1)", x.count(1), 12);
        check.taken("15 places are left", x, x.best(5), 128 * 128);
        check.taken("all are far enough", x, x.settle(16129), 0);
        check.taken("all are FIXED", x, x.settle(17000), 0);
        check.due("stuck()", x.stuck(), 1);
    }

    private static void ramp() {
        check.part("promise 28");
        ColoursApart x = new ColoursApart();
        check.refused("ramp(-1, 0, 2)", x, x.ramp(-1, 0, 2), -1);
        check.refused("ramp(0, WHITE + 1, 2)", x, x.ramp(0, WHITE + 1, 2), -1);
        check.refused("ramp(0, WHITE, 1)", x, x.ramp(0, WHITE, 1), -1);
        check.refused("ramp(0, WHITE, 13)", x, x.ramp(0, WHITE, 13), -1);
        check.refused("ramp(0, WHITE, MIN)", x, x.ramp(0, WHITE, MIN), -1);
        check.refused("ramp(WHITE, 0, 1): -1 goes first", x, x.ramp(WHITE, 0, 1), -1);
        check.refused("a is lighter", x, x.ramp(WHITE, 0, 2), -6);
        check.refused("a is alike", x, x.ramp(0, 0x000008, 2), -6);
        check.due("none is kept", x.step(0), -1);
        check.taken("ramp(0, WHITE, 2)", x, x.ramp(0, WHITE, 2), 255);
        check.taken("ramp(0, 9, 2): light 1 at blue 9", x, x.ramp(0, 9, 2), 241);
        check.due("step(1)", x.step(1), 9);
        check.taken("ramp(0, 17, 2): light 1 at blue 9", x, x.ramp(0, 17, 2), 128);
        check.due("step(1)", x.step(1), 9);
        check.taken("ramp(0, 0x0000FF, 12)", x, x.ramp(0, 0x0000FF, 12), 255);
        check.due("step(1): light 2", x.step(1), 18);
        check.due("step(11): light 29", x.step(11), 255);
    }

    private static void rampEdges() {
        check.part("term V");
        ColoursApart x = new ColoursApart();
        check.taken("black to white in 12", x, x.ramp(0, WHITE, 12), 255);
        for (int j = 0; j < 12; j++) {
            check.due("step", x.step(j), 255 * j / 11 * 0x010101);
        }
        check.taken("LIGHT reaches 31, falls and reaches it again", x, x.ramp(0x0000FF, 0x003500, 2), 219);
        check.due("step(0)", x.step(0), 0x0000FF);
        check.due("step(1)", x.step(1), 0x002E24);
        check.due("light of point 220", x.light(0x002E23), 30);
        x.ramp(0, 0x01FF00, 3);
        check.due("red 127 / 255 is 0", x.step(1), 0x007F00);
        x.ramp(0, 0x02FF00, 5);
        check.due("red 128 / 255 is 1", x.step(1), 0x014000);
        check.taken("0 and 1 lie at one point", x, x.ramp(0, 0x000012, 12), 248);
        check.due("step(5): light 0", x.step(5), 0);
        check.due("step(6): light 1", x.step(6), 9);
        check.due("step(10): light 1", x.step(10), 9);
        check.due("step(11): light 2", x.step(11), 18);
    }

    private static void step() {
        check.part("promise 29");
        ColoursApart x = new ColoursApart();
        check.due("no RAMP", x.step(0), -1);
        x.ramp(0, WHITE, 6);
        check.due("step(-1)", x.step(-1), -1);
        check.due("step(MIN)", x.step(MIN), -1);
        check.due("step(6)", x.step(6), -1);
        check.due("step(5)", x.step(5), WHITE);
        check.due("step(1)", x.step(1), 0x333333);
        x.ramp(0, WHITE, 2);
        check.due("step(1)", x.step(1), WHITE);
        check.due("step(2)", x.step(2), -1);
        x.ramp(WHITE, 0, 3);
        check.due("the latest that was not refused", x.step(1), WHITE);
        check.due("status()", x.status(), -6);
    }

    private static void rising() {
        check.part("promise 30");
        ColoursApart x = new ColoursApart();
        check.due("no RAMP", x.rising(0), -1);
        x.ramp(0, WHITE, 5);
        check.due("rising(-1)", x.rising(-1), -1);
        check.due("rising(6)", x.rising(6), -1);
        for (int sight = 0; sight < 6; sight++) {
            check.due("rising", x.rising(sight), 1);
        }
        x.levels(4);
        check.due("five steps, four levels", x.rising(5), 0);
        x.sheet(0, 2, 9);
        x.weak(2, 0, 0);
        check.due("all is black", x.rising(2), 0);
        check.due("rising(1)", x.rising(1), 1);
        x.ramp(0, 0x000012, 4);
        check.due("two steps alike", x.rising(0), 0);
        x.ramp(0xFF0000, 0x00FF00, 2);
        x.sheet(0, 2, 9);
        x.write(0, 0, 1000);
        x.weak(3, 0, 0);
        check.due("red alone falls", x.rising(3), 0);
        check.due("rising(4)", x.rising(4), 1);
    }

    private static void group() {
        check.part("promise 31");
        ColoursApart x = new ColoursApart();
        check.due("group(0, 5, 0) of none", x.group(0, 5, 0), -2);
        check.due("group(6, 5, 0): -1 goes first", x.group(6, 5, 0), -1);
        x.add(0x000010, false);
        x.add(0x000012, true);
        check.due("group(-1, 5, 0)", x.group(-1, 5, 0), -1);
        check.due("group(0, -1, 0)", x.group(0, -1, 0), -1);
        check.due("group(0, FARTHEST + 1, 0)", x.group(0, FARTHEST + 1, 0), -1);
        check.due("group(0, 5, -1)", x.group(0, 5, -1), -2);
        check.due("group(0, 5, 2)", x.group(0, 5, 2), -2);
        check.due("group(0, 0, 1)", x.group(0, 0, 1), 1);
        check.due("4 is not below 4", x.group(0, 4, 1), 1);
        check.due("4 is below 5", x.group(0, 5, 1), 0);
        check.due("group(0, FARTHEST, 1)", x.group(0, FARTHEST, 1), 0);
        check.due("in PRINT alike", x.group(5, 1, 1), 0);
        check.due("0 is not below 0", x.group(5, 0, 1), 1);
        check.due("in GREY 1 and 2", x.group(4, 3, 1), 1);
        check.due("in GREY 1 and 2, by 4", x.group(4, 4, 1), 0);
        x.sights(0);
        x.group(0, 5, 1);
        check.due("status() is not of group", x.status(), -1);
    }

    private static void groupChain() {
        check.part("promise 31: led together");
        ColoursApart x = new ColoursApart();
        int[] reds = {90, 10, 60, 200, 30, 80, 50, 20, 70, 40, 210, 0};
        for (int red : reds) {
            x.add(red << 16, false);
        }
        for (int i = 0; i < 12; i++) {
            int due = i == 3 || i == 10 ? 3 : 0;
            check.due("by 101", x.group(0, 101, i), due);
            check.due("by 100", x.group(0, 100, i), i);
        }
        check.due("by 12101", x.group(0, 12101, 10), 0);
    }
}
