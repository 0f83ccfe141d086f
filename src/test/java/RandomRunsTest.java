import java.util.Random;

/** All promises: runs of random calls, each answer compared with the plain model's. */
public final class RandomRunsTest {
    private static final int RUNS = 1200;
    /** An object is used for at most 512 calls, and one turn of a run makes at most 20. */
    private static final int CALLS = 512 - 20;
    private static final Check check = new Check();

    private final Random random;
    private final ColoursApart x = new ColoursApart();
    private final PlainModel y = new PlainModel();

    private RandomRunsTest(int seed) {
        random = new Random(seed);
    }

    public static void main(String[] args) {
        for (int seed = 0; seed < RUNS; seed++) {
            check.part("random run " + seed);
            new RandomRunsTest(seed).run();
        }
        check.end("RandomRunsTest");
    }

    private void run() {
        int before = check.calls();
        while (check.calls() - before < CALLS) {
            switch (random.nextInt(4)) {
                case 0: settings(); break;
                case 1: house(); break;
                case 2: choice(); break;
                default: questions(); break;
            }
            check.due("call " + (check.calls() - before) + ": status()", x.status(), y.status());
        }
    }

    /** Mostly from .. to, seldom a number around or far off. */
    private int number(int from, int to) {
        int kind = random.nextInt(40);
        if (kind == 0) {
            return from - 1 - random.nextInt(2);
        }
        if (kind == 1) {
            return to + 1 + random.nextInt(2);
        }
        if (kind == 2) {
            int[] far = {Integer.MIN_VALUE, Integer.MAX_VALUE, -1, 0, 1 << 16, 1 << 24};
            return far[random.nextInt(far.length)];
        }
        return from + random.nextInt(to - from + 1);
    }

    private int colour() {
        switch (random.nextInt(6)) {
            case 0: return y.place(random.nextInt(8));
            case 1: return random.nextInt(32) * 0x080808;
            case 2: return number(0, 0xFFFFFF);
            case 3: return random.nextInt(256) << 8 * random.nextInt(3);
            case 4: return Math.max(0, y.of(random.nextInt(12), 0)) ^ random.nextInt(4);
            default: return random.nextInt(1 << 24);
        }
    }

    private int least() {
        int[] tops = {10, 300, 5000, 30000, 130000, 2000000};
        return number(1, tops[random.nextInt(tops.length)]);
    }

    private void settings() {
        int a = number(0, 3);
        int b = number(0, 2);
        int c;
        switch (random.nextInt(9)) {
            case 0:
                c = number(0, 60);
                check.due("sheet", x.sheet(a, b, c), y.sheet(a, b, c));
                break;
            case 1: case 2:
                for (int i = 0; i < 12; i++) {
                    int v = number(-3000, 3000) / (1 + random.nextInt(6));
                    check.due("write", x.write(a, i, v), y.write(a, i, v));
                }
                break;
            case 3:
                b = number(1, 3);
                c = number(0, 12);
                check.due("weak", x.weak(b, a, c), y.weak(b, a, c));
                break;
            case 4:
                c = number(2, 16);
                check.due("levels", x.levels(c), y.levels(c));
                break;
            case 5:
                a = number(0, 10);
                b = number(0, 10);
                c = number(0, 10);
                check.due("weights", x.weights(a, b, c), y.weights(a, b, c));
                break;
            case 6:
                c = number(1, 63) & number(1, 127);
                check.due("sights", x.sights(c), y.sights(c));
                break;
            case 7:
                c = number(2, 4);
                check.due("grid", x.grid(c), y.grid(c));
                break;
            default:
                c = number(0, 2);
                if (random.nextInt(3) == 0) {
                    check.due("back", x.back(c), y.back(c));
                } else {
                    check.due("image", x.image(c), y.image(c));
                }
                break;
        }
    }

    private void house() {
        int i = number(0, Math.max(1, y.count(0)) - 1);
        int k = number(0, Math.max(1, y.count(0)) - 1);
        int c = colour();
        boolean is = random.nextInt(4) == 0;
        switch (random.nextInt(8)) {
            case 0: case 1:
                check.due("add", x.add(c, is), y.add(c, is));
                break;
            case 2:
                check.due("set", x.set(i, c), y.set(i, c));
                break;
            case 3:
                check.due("fix", x.fix(i, is), y.fix(i, is));
                break;
            case 4:
                c = number(-1, 7);
                check.due("name", x.name(i, c), y.name(i, c));
                break;
            case 5:
                k = number(0, 7);
                int low = c & 0x3F7F3F;
                int high = colour() | 0xC0C0C0;
                check.due("box", x.box(k, low, high), y.box(k, low, high));
                break;
            default:
                c = random.nextBoolean() ? number(10, 30) : number(10, 210);
                check.due("pair", x.pair(i, k, c), y.pair(i, k, c));
                break;
        }
    }

    private void choice() {
        int d = least();
        switch (random.nextInt(12)) {
            case 0:
                settleBoth(d);
                break;
            case 1: case 2: case 3: case 4:
                int i = number(0, 11);
                check.due("move", x.move(i, d), y.move(i, d));
                break;
            case 5: case 6:
                int a = colour();
                int b = colour();
                int steps = number(2, 12);
                check.due("ramp", x.ramp(a, b, steps), y.ramp(a, b, steps));
                for (int j = -1; j < 13; j++) {
                    check.due("step", x.step(j), y.step(j));
                }
                break;
            case 7:
                bestBoth();
                break;
            default:
                int sight = number(0, 5);
                for (int k = -1; k < 13; k++) {
                    check.due("group", x.group(sight, d, k), y.group(sight, d, k));
                }
                check.due("rising", x.rising(sight), y.rising(sight));
                break;
        }
    }

    private void settleBoth(int d) {
        check.due("settle", x.settle(d), y.settle(d));
        check.due("stuck", x.stuck(), y.stuck());
        for (int i = 0; i < 12; i++) {
            check.due("of", x.of(i, 0), y.of(i, 0));
        }
    }

    /** The model goes through every set: the dearest ones are seldom asked for. */
    private void bestBoth() {
        int n = number(1, 5);
        boolean dear = n > 3 && y.count(4) == 64 || n > 4 && y.count(4) == 27;
        if (dear && random.nextInt(20) != 0) {
            n = 3;
        }
        check.due("best", x.best(n), y.best(n));
        for (int k = -1; k < 6; k++) {
            check.due("chosen", x.chosen(k), y.chosen(k));
        }
    }

    private void questions() {
        int a = colour();
        int b = colour();
        int sight = number(0, 5);
        int i = number(0, 11);
        int what = number(0, 4);
        check.due("place", x.place(a % 70), y.place(a % 70));
        check.due("seen", x.seen(sight, a), y.seen(sight, a));
        check.due("light", x.light(a), y.light(a));
        check.due("distance", x.distance(sight, a, b), y.distance(sight, a, b));
        check.due("apart", x.apart(a, b), y.apart(a, b));
        check.due("contrast", x.contrast(a, b, what), y.contrast(a, b, what));
        check.due("unmet", x.unmet(), y.unmet());
        check.due("of", x.of(i, what), y.of(i, what));
        check.due("count", x.count(what), y.count(what));
        check.due("stuck", x.stuck(), y.stuck());
    }
}
