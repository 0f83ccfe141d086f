/** Boundaries that promises 32 to 35 name, and the 512 calls of an object; the part of each check quotes the sentence. */
public final class EdgesOfKeepingTest {
    private static final int MIN = Integer.MIN_VALUE;
    private static final int MAX = Integer.MAX_VALUE;
    private static final int WHITE = 0xFFFFFF;
    private static final int FARTHEST = 2000000;
    private static final int[] LOOKS_BUT_IMAGES = {
        Busy.EYES, Busy.SHEETS, Busy.HOUSE, Busy.BOXES, Busy.PAIRS, Busy.LATEST};
    private static final Check check = new Check();
    private static final Edges edges = new Edges(check);

    public static void main(String[] args) {
        imageRange();
        imageChangesNothingElse();
        imageOfNone();
        imageOfAFullHouse();
        imageAnew();
        imagesOfOtherPairs();
        imagesOfOneLength();
        backRefused();
        backBringsAll();
        backLeavesTheRest();
        backAsOften();
        count();
        countAtItsEnds();
        statusAheadOfAny();
        statusOfEachReason();
        statusOfEachCallThatIsTaken();
        statusIsNotOfQuestions();
        wrongNumbersEverywhere();
        fiveHundredAndTwelve();
        check.end("EdgesOfKeepingTest");
    }

    private static ColoursApart threeImages() {
        ColoursApart x = Busy.make();
        x.image(2);
        return x;
    }

    private static void imageRange() {
        check.part("32: IMAGE k (0 .. 2): 0; -1");
        edges.range("image", 0, 2, -1, (x, k) -> x.image(k));
        for (int k = 0; k < 3; k++) {
            ColoursApart x = new ColoursApart();
            check.taken("image", x, x.image(k), 0);
            for (int other = 0; other < 3; other++) {
                check.due("that one alone is kept", x.back(other), other == k ? 0 : -6);
            }
        }
    }

    private static void imageChangesNothingElse() {
        check.part("32: .. are kept");
        for (int k = 0; k < 3; k++) {
            for (int look : LOOKS_BUT_IMAGES) {
                ColoursApart x = Busy.make();
                x.image(k);
                check.same("image(" + k + "), look " + look, Busy.look(look, x), Busy.look(look, Busy.make()));
            }
        }
    }

    private static void imageOfNone() {
        check.part("32: of an empty HOUSE");
        ColoursApart x = new ColoursApart();
        x.image(2);
        x.add(0, true);
        x.add(1, true);
        x.pair(0, 1, 10);
        x.levels(9);
        check.taken("back(2)", x, x.back(2), 0);
        for (int what = 0; what < 3; what++) {
            check.due("count", x.count(what), 0);
        }
        check.due("of(0, 0)", x.of(0, 0), -2);
        check.due("unmet()", x.unmet(), -1);
        check.due("levels", x.levels(2), 5);
        check.taken("numbered anew", x, x.add(7, false), 0);
        check.due("FREE", x.of(0, 1), 0);
        check.due("without a NAME", x.of(0, 2), -1);
    }

    private static ColoursApart full() {
        ColoursApart x = new ColoursApart();
        fillHouse(x);
        return x;
    }

    private static void fillHouse(ColoursApart x) {
        for (int i = 0; i < 12; i++) {
            x.add(i * 0x101010, i % 2 == 1);
            x.name(i, i % 8);
        }
        for (int p = 0; p < 20; p++) {
            x.pair(p % 10, p < 10 ? 10 : 11, p == 19 ? 210 : 10);
        }
    }

    private static void imageOfAFullHouse() {
        check.part("32: of 12 COLOURS and 20 PAIRS");
        for (int look : LOOKS_BUT_IMAGES) {
            check.same("look " + look, Busy.look(look, fullAndBack()), Busy.look(look, full()));
        }
        ColoursApart z = fullAndBack();
        check.due("count(0)", z.count(0), 12);
        check.due("count(1)", z.count(1), 6);
        check.due("count(2)", z.count(2), 20);
        check.due("the last PAIR is not met", z.unmet(), 19);
        check.refused("no room for a COLOUR", z, z.add(0, false), -5);
        check.refused("no room for a PAIR", z, z.pair(0, 1, 10), -5);
        check.due("NAME of the last", z.of(11, 2), 3);
        check.due("the last COLOUR", z.of(11, 0), 0xB0B0B0);
        check.due("the last is FIXED", z.of(11, 1), 1);
    }

    private static ColoursApart fullAndBack() {
        ColoursApart x = new ColoursApart();
        x.image(0);
        fillHouse(x);
        x.image(1);
        x.back(0);
        x.back(1);
        return x;
    }

    private static void imageAnew() {
        check.part("32: an IMAGE that is kept again");
        ColoursApart x = new ColoursApart();
        for (int times = 0; times < 4; times++) {
            check.taken("image(1)", x, x.image(1), 0);
            x.add(times, false);
            check.taken("back(1)", x, x.back(1), 0);
            check.due("the latest of them", x.count(0), times);
            x.add(times, false);
        }
    }

    private static void imagesOfOtherPairs() {
        check.part("32, 33: each IMAGE has its own PAIRS");
        int[][] pairs = {{0, 1}, {2, 3}, {4, 0}};
        ColoursApart x = new ColoursApart();
        for (int i = 0; i < 5; i++) {
            x.add(0x101010, false);
        }
        for (int k = 0; k < 3; k++) {
            x.pair(pairs[k][0], pairs[k][1], 11);
            x.image(k);
        }
        for (int k = 0; k < 3; k++) {
            x.back(k);
            check.due("as many as came", x.count(2), k + 1);
            for (int p = 0; p <= k; p++) {
                check.taken("it is there", x, x.pair(pairs[p][1], pairs[p][0], 10), k + 1);
            }
            check.due("all are met", x.unmet(), -1);
        }
    }

    private static void imagesOfOneLength() {
        check.part("32, 33: the only PAIR of one IMAGE is of other COLOURS than that of another");
        dueOnlyPairs(new int[] {0, 1}, 0, new int[] {0, 2}, -1);
        dueOnlyPairs(new int[] {0, 3}, -1, new int[] {2, 3}, 0);
        dueOnlyPairs(new int[] {1, 0}, 0, new int[] {1, 3}, -1);
    }

    /** Of four COLOURS, 0 and 1 black, 2 and 3 white, the only PAIR in IMAGES 0 and 1; there is none in 2. */
    private static void dueOnlyPairs(int[] first, int unmetFirst, int[] second, int unmetSecond) {
        ColoursApart x = new ColoursApart();
        for (int i = 0; i < 4; i++) {
            x.add(i < 2 ? 0 : WHITE, false);
        }
        x.image(2);
        x.pair(first[0], first[1], 20);
        x.image(0);
        x.back(2);
        x.pair(second[0], second[1], 20);
        x.image(1);
        for (int times = 0; times < 2; times++) {
            x.back(0);
            check.due("unmet() of the first", x.unmet(), unmetFirst);
            x.back(1);
            check.due("unmet() of the second", x.unmet(), unmetSecond);
            check.taken("the first is no PAIR here", x, x.pair(first[0], first[1], 20), 2);
            x.back(2);
            check.due("no PAIR", x.unmet(), -1);
            check.due("count(2)", x.count(2), 0);
        }
    }

    private static void backRefused() {
        check.part("33: -1; -6 it was not kept");
        edges.rangeOf(EdgesOfKeepingTest::threeImages, "back", 0, 2, -1, (x, k) -> x.back(k));
        edges.refused("back(2)", -6, x -> x.back(2));
        edges.refused("back(-1)", -1, x -> x.back(-1));
        edges.refused("back(3)", -1, x -> x.back(3));
        for (int k = 0; k < 3; k++) {
            int one = k;
            edges.refusedOf(ColoursApart::new, "a new object", -6, x -> x.back(one));
        }
        ColoursApart x = new ColoursApart();
        x.image(3);
        check.refused("a refused image keeps none", x, x.back(2), -6);
    }

    private static void messUp(ColoursApart x) {
        x.fix(0, false);
        x.fix(3, false);
        for (int i = 0; i < 5; i++) {
            x.name(i, -1);
            x.set(i, 0x010101 * (i + 1));
        }
        for (int name = 0; name < 8; name++) {
            x.box(name, name, 0x777777);
        }
        x.name(1, 1);
        x.add(0x999999, true);
        x.pair(0, 1, 11);
        x.pair(2, 1, 12);
        x.pair(4, 0, 13);
        x.pair(3, 5, 14);
        x.sheet(3, 2, 9);
        for (int sight = 1; sight < 4; sight++) {
            x.weak(sight, 3, 0);
        }
        x.levels(2);
        x.weights(5, 6, 7);
        x.sights(12);
        x.grid(3);
        x.sheet(0, 1, 3);
        x.best(2);
        x.ramp(0, WHITE, 3);
        x.settle(1);
    }

    private static void backBringsAll() {
        check.part("33: they are as IMAGE k has them");
        for (int look : new int[] {Busy.EYES, Busy.HOUSE, Busy.BOXES, Busy.PAIRS}) {
            ColoursApart x = threeImages();
            messUp(x);
            boolean messed = !Busy.look(look, x).equals(Busy.look(look, threeImages()));
            check.due("something was changed, look " + look, messed ? 1 : 0, 1);
            ColoursApart y = threeImages();
            messUp(y);
            check.taken("back(2)", y, y.back(2), 0);
            check.same("all is back, look " + look, Busy.look(look, y), Busy.look(look, threeImages()));
        }
    }

    private static void backLeavesTheRest() {
        check.part("33: SHEETS, IMAGES, the latest BEST SET, RAMP, settle() are not among them");
        for (int look : new int[] {Busy.SHEETS, Busy.IMAGES}) {
            ColoursApart x = threeImages();
            messUp(x);
            x.back(2);
            ColoursApart y = threeImages();
            messUp(y);
            check.same("look " + look, Busy.look(look, x), Busy.look(look, y));
        }
        ColoursApart x = threeImages();
        messUp(x);
        int[] before = {x.chosen(0), x.chosen(1), x.chosen(2), x.step(1), x.step(2), x.step(3), x.stuck()};
        x.back(2);
        int[] after = {x.chosen(0), x.chosen(1), x.chosen(2), x.step(1), x.step(2), x.step(3), x.stuck()};
        for (int i = 0; i < before.length; i++) {
            check.due("the latest stays", after[i], before[i]);
        }
        check.due("a BEST SET of two", x.chosen(1) > 0 && x.chosen(2) == -1 ? 1 : 0, 1);
        check.due("a RAMP of three", x.step(2), WHITE);
    }

    private static void backAsOften() {
        check.part("33: an IMAGE stays as it is");
        for (int k = 0; k < 2; k++) {
            ColoursApart x = Busy.make();
            for (int times = 0; times < 3; times++) {
                check.taken("back", x, x.back(k), 0);
                messUp(x);
            }
            int image = k;
            edges.changesNothing(() -> {
                ColoursApart y = Busy.make();
                y.back(image);
                return y;
            }, "back twice", y -> y.back(image));
        }
    }

    private static void count() {
        check.part("34: 0 .. 4. NONE for others");
        edges.askedRange("count", 0, 4, -1, (x, what) -> x.count(what));
        edges.asked("COLOURS", 5, x -> x.count(0));
        edges.asked("FIXED ones", 2, x -> x.count(1));
        edges.asked("PAIRS", 3, x -> x.count(2));
        edges.asked("SHEETS that are there", 3, x -> x.count(3));
        edges.asked("places", 64, x -> x.count(4));
    }

    private static void countAtItsEnds() {
        check.part("34: none, and as many as can be");
        ColoursApart x = new ColoursApart();
        int[] none = {0, 0, 0, 0, 27};
        for (int what = 0; what < 5; what++) {
            check.due("count(" + what + ")", x.count(what), none[what]);
        }
        ColoursApart y = full();
        for (int i = 0; i < 12; i++) {
            y.fix(i, true);
        }
        for (int s = 0; s < 4; s++) {
            y.sheet(s, 0, 0);
        }
        y.grid(4);
        int[] most = {12, 12, 20, 4, 64};
        for (int what = 0; what < 5; what++) {
            check.due("count(" + what + ")", y.count(what), most[what]);
        }
        y.grid(2);
        check.due("count(4)", y.count(4), 8);
    }

    private static void statusAheadOfAny() {
        check.part("35: 0 .. ahead of any");
        ColoursApart x = new ColoursApart();
        check.due("status()", x.status(), 0);
        check.due("status() again", x.status(), 0);
        x.seen(-1, -1);
        x.of(-1, -1);
        x.group(-1, -1, -1);
        check.due("questions are not among them", x.status(), 0);
    }

    private static void statusOfEachReason() {
        check.part("35: what the latest call was REFUSED by");
        ColoursApart x = full();
        check.refused("-5", x, x.add(0, false), -5);
        check.refused("-6", x, x.back(0), -6);
        check.refused("-1", x, x.levels(1), -1);
        check.refused("-2", x, x.write(0, 0, 0), -2);
        check.refused("-4", x, x.sheet(0, 0, -1), -4);
        check.taken("0", x, x.sheet(0, 0, 0), 0);
        check.refused("-3", x, x.write(0, 0, 0), -3);
        check.due("it is told as often as asked", x.status(), -3);
        check.refused("-5", x, x.pair(0, 1, 10), -5);
        check.taken("0", x, x.weights(1, 1, 1), 0);
    }

    /** Answers above 0 are no reason: status() is 0 then too. */
    private static void statusOfEachCallThatIsTaken() {
        check.part("35: 0 if it was not");
        Edges.Call[] calls = {
            x -> x.sheet(3, 0, 60), x -> x.write(2, 59, -5), x -> x.weak(3, 1, 0), x -> x.levels(16),
            x -> x.weights(10, 0, 10), x -> x.sights(63), x -> x.grid(2), x -> x.add(WHITE, true),
            x -> x.set(1, 0), x -> x.fix(4, true), x -> x.name(1, -1), x -> x.box(7, 0, WHITE),
            x -> x.pair(1, 3, 210), x -> x.best(1), x -> x.move(2, 1), x -> x.settle(FARTHEST),
            x -> x.ramp(0, WHITE, 2), x -> x.image(2), x -> x.back(1)};
        check.due("nineteen calls", calls.length, 19);
        for (int c = 0; c < calls.length; c++) {
            ColoursApart x = Busy.make();
            check.refused("refused", x, x.back(2), -6);
            int answer = calls[c].on(x);
            check.due("call " + c + " is taken", answer >= 0 ? 1 : 0, 1);
            check.due("call " + c + ": status()", x.status(), 0);
        }
    }

    private static void statusIsNotOfQuestions() {
        check.part("35: other calls leave it");
        edges.asked("place(5)", 0x005555, x -> x.place(5));
        edges.asked("seen(0, 5)", 5, x -> x.seen(0, 5));
        edges.asked("light(WHITE)", 255, x -> x.light(WHITE));
        edges.asked("distance(0, 0, 1)", 4, x -> x.distance(0, 0, 1));
        edges.asked("apart(5, 5)", 0, x -> x.apart(5, 5));
        edges.asked("contrast(0, WHITE, 0)", 268, x -> x.contrast(0, WHITE, 0));
        edges.asked("unmet()", 2, x -> x.unmet());
        edges.asked("of(9, 0)", -2, x -> x.of(9, 0));
        edges.asked("chosen(9)", -1, x -> x.chosen(9));
        edges.asked("stuck()", 1, x -> x.stuck());
        edges.asked("step(0)", 0x000040, x -> x.step(0));
        edges.asked("rising(0)", 1, x -> x.rising(0));
        edges.asked("group(0, 0, 4)", 4, x -> x.group(0, 0, 4));
        edges.asked("count(9)", -1, x -> x.count(9));
    }

    /** Each call with each of its numbers far off: none may throw, each answers a number below 0. */
    private static void wrongNumbersEverywhere() {
        check.part("numbers far off");
        for (int n : new int[] {MIN, MIN + 1, -65536, 1 << 24, 1 << 30, MAX - 1, MAX}) {
            ColoursApart x = Busy.make();
            int[] answers = {
                x.sheet(n, 0, 1), x.sheet(0, n, 1), x.write(n, 0, 0), x.write(0, n, 0), x.weak(n, 0, 0),
                x.weak(1, n, 0), x.levels(n), x.weights(n, 1, 1), x.weights(1, n, 1), x.weights(1, 1, n),
                x.sights(n), x.grid(n), x.place(n), x.seen(n, 0), x.seen(0, n), x.light(n), x.distance(n, 0, 0),
                x.distance(0, n, 0), x.distance(0, 0, n), x.apart(n, 0), x.apart(0, n), x.add(n, true),
                x.set(n, 0), x.set(1, n), x.fix(n, true), x.name(n, 0), x.name(1, n), x.box(n, 0, 0),
                x.box(0, n, WHITE), x.box(0, 0, n), x.pair(n, 1, 50), x.pair(1, n, 50), x.pair(0, 1, n),
                x.contrast(n, 0, 0), x.contrast(0, n, 0), x.contrast(0, 0, n), x.of(n, 0), x.of(0, n), x.best(n),
                x.chosen(n), x.move(n, 1), x.move(1, n), x.settle(n), x.ramp(n, WHITE, 2), x.ramp(0, n, 2),
                x.ramp(0, WHITE, n), x.step(n), x.rising(n), x.group(n, 1, 0), x.group(0, n, 0), x.group(0, 1, n),
                x.image(n), x.back(n), x.count(n)};
            for (int a = 0; a < answers.length; a++) {
                check.due("answer " + a + " with " + n + " is below 0 (" + answers[a] + ")", answers[a] < 0 ? 1 : 0, 1);
            }
        }
    }

    private static void fiveHundredAndTwelve() {
        check.part("an object is used for at most 512 calls");
        ColoursApart x = new ColoursApart();
        int calls = 0;
        for (int i = 0; i < 12; i++) {
            x.add(0x0A0000 + i, false);
            calls++;
        }
        while (calls < 504) {
            x.settle(16129);
            x.image(calls % 3);
            x.best(1 + calls % 3);
            x.back(calls % 3);
            calls += 4;
        }
        check.due("call 505", x.best(2), 195075);
        check.due("call 506", x.chosen(1), 26);
        check.due("call 507", x.count(0), 12);
        check.due("call 508", x.add(0, true), -5);
        check.due("call 509", x.status(), -5);
        check.due("call 510", x.ramp(0, WHITE, 2), 255);
        check.due("call 511", x.step(1), WHITE);
        check.due("call 512", x.status(), 0);
    }
}
