/** Promises 32 to 35: images, counts, the status. */
public final class KeepingTest {
    private static final int MIN = Integer.MIN_VALUE;
    private static final int MAX = Integer.MAX_VALUE;
    private static final int WHITE = 0xFFFFFF;
    private static final Check check = new Check();

    public static void main(String[] args) {
        image();
        whatIsKept();
        whatIsNotKept();
        imagesAreCopies();
        pairsOfImages();
        back();
        count();
        statusOfEachCall();
        statusIsLeftByOthers();
        check.end("KeepingTest");
    }

    private static void image() {
        check.part("promise 32");
        ColoursApart x = new ColoursApart();
        check.refused("image(-1)", x, x.image(-1), -1);
        check.refused("image(3)", x, x.image(3), -1);
        check.refused("image(MIN)", x, x.image(MIN), -1);
        for (int k = 0; k < 3; k++) {
            check.taken("image", x, x.image(k), 0);
            x.add(k, false);
        }
        for (int k = 0; k < 3; k++) {
            check.taken("back", x, x.back(k), 0);
            check.due("count(0)", x.count(0), k);
        }
        check.taken("image(0) anew", x, x.image(0), 0);
        x.back(1);
        x.back(0);
        check.due("count(0)", x.count(0), 2);
    }

    private static void whatIsKept() {
        check.part("promises 32 and 33: what is kept");
        ColoursApart x = new ColoursApart();
        x.add(0x0A0B0C, true);
        x.add(WHITE, false);
        x.name(1, 3);
        x.box(3, 0x101010, WHITE);
        x.pair(0, 1, 30);
        x.sheet(0, 2, 9);
        x.write(0, 0, 500);
        x.weak(2, 0, 0);
        x.levels(7);
        x.weights(1, 2, 3);
        x.sights(9);
        x.grid(4);
        x.image(1);
        x.fix(0, false);
        x.set(0, 5);
        x.name(1, -1);
        x.set(1, 0);
        x.add(77, true);
        x.box(3, 0, 0);
        x.pair(0, 1, 210);
        x.pair(0, 2, 10);
        x.weak(2, 0, 5);
        x.levels(2);
        x.weights(0, 0, 0);
        x.sights(63);
        x.grid(2);
        check.taken("back(1)", x, x.back(1), 0);
        check.due("of(0, 0)", x.of(0, 0), 0x0A0B0C);
        check.due("of(0, 1)", x.of(0, 1), 1);
        check.due("of(1, 0)", x.of(1, 0), WHITE);
        check.due("of(1, 1)", x.of(1, 1), 0);
        check.due("of(1, 2)", x.of(1, 2), 3);
        check.due("of(2, 0)", x.of(2, 0), -2);
        check.due("count(1)", x.count(1), 1);
        check.due("count(2)", x.count(2), 1);
        check.due("the box is as it was", x.set(1, 0x0F1010), -1);
        check.due("its other end too", x.set(1, 0x101010), WHITE);
        check.due("the contrast that is asked", x.pair(0, 1, 10), 1);
        check.due("seen(2, ..)", x.seen(2, 0x640000), 50 << 16);
        check.due("distance", x.distance(0, 0, 0x010101), 6);
        check.due("levels(5)", x.levels(5), 7);
        check.due("sights(1)", x.sights(1), 9);
        check.due("grid(3)", x.grid(3), 4);
        x.back(1);
        check.due("the pair's c was 30", x.unmet(), -1);
        x.set(1, 0x333333);
        check.due("64 / 23 is below 3", x.unmet(), 0);
        x.set(1, 0x383838);
        check.due("69 / 23 is not", x.unmet(), -1);
    }

    private static void whatIsNotKept() {
        check.part("promise 33: what is not kept");
        ColoursApart x = new ColoursApart();
        x.image(0);
        x.sheet(1, 0, 3);
        x.grid(2);
        x.best(3);
        x.ramp(0, WHITE, 4);
        x.add(0, true);
        x.add(0, true);
        x.settle(5);
        x.image(2);
        check.taken("back(0)", x, x.back(0), 0);
        check.due("count(0)", x.count(0), 0);
        check.due("SHEETS stay", x.count(3), 1);
        check.due("the BEST SET stays", x.chosen(2), 5);
        check.due("the RAMP stays", x.step(1), 0x555555);
        check.due("stuck() stays", x.stuck(), 1);
        check.taken("other images stay", x, x.back(2), 0);
        check.due("count(0)", x.count(0), 2);
    }

    private static void imagesAreCopies() {
        check.part("promise 33: images are copies");
        ColoursApart x = new ColoursApart();
        x.add(1, false);
        x.image(0);
        x.set(0, 2);
        x.back(0);
        x.set(0, 3);
        x.add(4, false);
        x.pair(0, 1, 10);
        x.box(0, 9, 9);
        x.sheet(0, 2, 0);
        x.weak(1, 0, 0);
        check.taken("back(0) again", x, x.back(0), 0);
        check.due("of(0, 0)", x.of(0, 0), 1);
        check.due("count(0)", x.count(0), 1);
        check.due("count(2)", x.count(2), 0);
        check.due("seen(1, 5)", x.seen(1, 5), 5);
        check.taken("name(0, 0)", x, x.name(0, 0), 0);
    }

    private static void pairsOfImages() {
        check.part("promise 33: pairs");
        ColoursApart x = new ColoursApart();
        x.add(0, false);
        x.add(WHITE, false);
        x.add(0, false);
        x.image(0);
        x.pair(2, 1, 200);
        x.image(1);
        x.back(0);
        x.pair(0, 1, 200);
        x.image(2);
        x.back(1);
        x.set(0, WHITE);
        check.due("1 and 2 are met", x.unmet(), -1);
        x.set(2, WHITE);
        check.due("1 and 2 are not met", x.unmet(), 0);
        x.back(2);
        x.set(2, WHITE);
        check.due("0 and 1 are met", x.unmet(), -1);
        check.taken("0 and 1 are told again", x, x.pair(1, 0, 210), 1);
        check.taken("0 and 2 are new", x, x.pair(2, 0, 10), 2);
    }

    private static void back() {
        check.part("promise 33: refused");
        ColoursApart x = new ColoursApart();
        x.add(9, false);
        check.refused("back(-1)", x, x.back(-1), -1);
        check.refused("back(3)", x, x.back(3), -1);
        check.refused("back(MAX)", x, x.back(MAX), -1);
        check.refused("back(0)", x, x.back(0), -6);
        x.image(1);
        check.refused("back(0)", x, x.back(0), -6);
        check.refused("back(2)", x, x.back(2), -6);
        check.due("nothing is changed", x.of(0, 0), 9);
        check.taken("back(1)", x, x.back(1), 0);
    }

    private static void count() {
        check.part("promise 34");
        ColoursApart x = new ColoursApart();
        x.add(1, true);
        x.add(2, true);
        x.add(3, false);
        x.pair(0, 1, 10);
        x.sheet(0, 0, 0);
        x.sheet(1, 1, 1);
        x.sheet(2, 2, 2);
        x.sheet(3, 0, 3);
        check.due("count(0)", x.count(0), 3);
        check.due("count(1)", x.count(1), 2);
        check.due("count(2)", x.count(2), 1);
        check.due("count(3)", x.count(3), 4);
        check.due("count(4)", x.count(4), 27);
        check.due("count(5)", x.count(5), -1);
        check.due("count(-1)", x.count(-1), -1);
        check.due("count(MAX)", x.count(MAX), -1);
        x.sheet(0, 0, -1);
        check.due("count(3)", x.count(3), 3);
    }

    /** Each call that status() tells of: refused, then not refused. */
    private static void statusOfEachCall() {
        check.part("promise 35");
        ColoursApart x = new ColoursApart();
        check.due("ahead of any", x.status(), 0);
        check.refused("sheet", x, x.sheet(9, 0, 0), -1);
        check.taken("sheet", x, x.sheet(0, 2, 3), 3);
        check.refused("write", x, x.write(0, 3, 0), -3);
        check.taken("write", x, x.write(0, 2, 0), 0);
        check.refused("weak", x, x.weak(1, 1, 0), -2);
        check.taken("weak", x, x.weak(1, 0, 0), 0);
        check.refused("levels", x, x.levels(1), -1);
        check.taken("levels", x, x.levels(5), 5);
        check.refused("weights", x, x.weights(11, 1, 1), -1);
        check.taken("weights", x, x.weights(1, 1, 1), 0);
        check.refused("sights", x, x.sights(0), -1);
        check.taken("sights", x, x.sights(1), 1);
        check.refused("grid", x, x.grid(1), -1);
        check.taken("grid", x, x.grid(3), 3);
        check.refused("add", x, x.add(-1, true), -1);
        check.taken("add", x, x.add(0, true), 0);
        check.refused("set", x, x.set(0, 1), -6);
        check.taken("add", x, x.add(1, false), 1);
        check.refused("set", x, x.set(2, 1), -2);
        check.taken("set", x, x.set(1, 1), 1);
        check.refused("fix", x, x.fix(2, true), -2);
        check.taken("fix", x, x.fix(1, false), 0);
        check.refused("name", x, x.name(1, 8), -1);
        check.taken("name", x, x.name(1, 7), 0);
        check.refused("box", x, x.box(8, 0, 0), -1);
        check.taken("box", x, x.box(7, 0, WHITE), 0);
        check.refused("pair", x, x.pair(1, 1, 10), -1);
        check.taken("pair", x, x.pair(0, 1, 10), 1);
        check.refused("best", x, x.best(0), -1);
        check.taken("best", x, x.best(1), 195075);
        check.refused("move", x, x.move(0, 1), -6);
        check.taken("move", x, x.move(1, 1), 0);
        check.refused("settle", x, x.settle(0), -1);
        check.taken("settle", x, x.settle(1), 0);
        check.refused("ramp", x, x.ramp(0, 0, 2), -6);
        check.taken("ramp", x, x.ramp(0, WHITE, 2), 255);
        check.refused("image", x, x.image(3), -1);
        check.taken("image", x, x.image(0), 0);
        check.refused("back", x, x.back(1), -6);
        check.taken("back", x, x.back(0), 0);
    }

    private static void askAll(ColoursApart x, int bad) {
        x.place(bad);
        x.seen(bad, bad);
        x.light(bad);
        x.distance(bad, bad, bad);
        x.apart(bad, bad);
        x.contrast(bad, bad, bad);
        x.unmet();
        x.of(bad, bad);
        x.chosen(bad);
        x.stuck();
        x.step(bad);
        x.rising(bad);
        x.group(bad, bad, bad);
        x.count(bad);
        x.status();
    }

    private static void statusIsLeftByOthers() {
        check.part("promise 35: calls that it does not tell of");
        ColoursApart x = new ColoursApart();
        askAll(x, -1);
        check.due("status()", x.status(), 0);
        x.sheet(0, 0, -1);
        askAll(x, 0);
        askAll(x, -1);
        check.due("status()", x.status(), -4);
    }
}
