/** Boundaries that terms III to VI and promises 23 to 31 name; the part of each check quotes the sentence. */
public final class EdgesOfChoiceTest {
    private static final int MIN = Integer.MIN_VALUE;
    private static final int MAX = Integer.MAX_VALUE;
    private static final int WHITE = 0xFFFFFF;
    private static final int FARTHEST = 2000000;
    private static final Check check = new Check();
    private static final Edges edges = new Edges(check);

    public static void main(String[] args) {
        bestRefused();
        bestOfOne();
        bestFirstAsRows();
        bestAndFixedOnes();
        chosen();
        moveRefused();
        moveOrder();
        moveAlone();
        moveByDAtLeast();
        moveFromAllOthers();
        moveItselfFirst();
        moveInPlain();
        moveInBox();
        moveMeetsContrasts();
        moveWithTwentyPairs();
        movePlacesOfEachGrid();
        settleRefused();
        settleOfFew();
        settleLessThanD();
        settleLaterFree();
        settleNearestFirst();
        settleFirstAsRows();
        settleMovedOnesStay();
        settleTwelve();
        settleEnds();
        stuck();
        rampRefused();
        rampDarker();
        rampSteps();
        rampPoints();
        step();
        risingRefused();
        risingGreater();
        groupRefused();
        groupBelowD();
        groupLedTogether();
        check.end("EdgesOfChoiceTest");
    }

    private static void dueSet(String what, ColoursApart x, int... places) {
        for (int k = 0; k < places.length; k++) {
            check.due(what + ": chosen(" + k + ")", x.chosen(k), places[k]);
        }
        check.due(what + ": behind the last", x.chosen(places.length), -1);
    }

    private static ColoursApart busyOf(int l) {
        ColoursApart x = Busy.make();
        x.grid(l);
        return x;
    }

    private static void bestRefused() {
        check.part("23, III: n (1 .. 5; 4 at most, if L is 4). -1");
        edges.rangeOf(() -> busyOf(2), "best of L 2", 1, 5, -1, (x, n) -> x.best(n));
        edges.rangeOf(() -> busyOf(3), "best of L 3", 1, 5, -1, (x, n) -> x.best(n));
        edges.rangeOf(() -> busyOf(4), "best of L 4", 1, 4, -1, (x, n) -> x.best(n));
        edges.rangeOf(EdgesOfChoiceTest::backToFour, "best of L 4 of an IMAGE", 1, 4, -1, (x, n) -> x.best(n));
    }

    private static ColoursApart backToFour() {
        ColoursApart x = Busy.make();
        x.image(2);
        x.grid(2);
        x.back(2);
        return x;
    }

    private static void bestOfOne() {
        check.part("23, III: 1 alone, without FIXED ones: 2,000,000");
        for (int l = 2; l <= 4; l++) {
            for (int weight : new int[] {0, 1, 10}) {
                ColoursApart x = new ColoursApart();
                x.grid(l);
                x.weights(weight, weight, weight);
                check.taken("an empty HOUSE", x, x.best(1), FARTHEST);
                dueSet("the first place", x, 0);
                x.add(0, false);
                check.taken("a FREE one", x, x.best(1), FARTHEST);
                dueSet("the first place", x, 0);
                x.fix(0, true);
                check.taken("a FIXED one", x, x.best(1), weight * 195075);
                dueSet("the farthest place", x, weight == 0 ? 0 : l * l * l - 1);
                x.fix(0, false);
                check.taken("it is FREE again", x, x.best(1), FARTHEST);
                check.taken("two", x, x.best(2), weight * 195075);
                dueSet("two", x, 0, weight == 0 ? 1 : l * l * l - 1);
            }
        }
    }

    private static void bestFirstAsRows() {
        check.part("23, III: places upwards; of all such the first as rows");
        ColoursApart x = new ColoursApart();
        x.grid(2);
        check.taken("four diagonals are alike", x, x.best(2), 195075);
        dueSet("the first", x, 0, 7);
        check.taken("two tetrahedra are alike", x, x.best(4), 130050);
        dueSet("the first", x, 0, 3, 5, 6);
        check.taken("five of eight", x, x.best(5), 65025);
        dueSet("the first", x, 0, 1, 2, 3, 4);
        x.weights(1, 0, 0);
        check.taken("red alone", x, x.best(2), 65025);
        dueSet("red alone", x, 0, 4);
        x.weights(0, 1, 0);
        check.taken("green alone", x, x.best(2), 65025);
        dueSet("green alone", x, 0, 2);
        x.weights(0, 0, 0);
        check.taken("all alike", x, x.best(5), 0);
        dueSet("all alike", x, 0, 1, 2, 3, 4);
        x.grid(3);
        x.weights(0, 0, 1);
        check.taken("three levels of blue", x, x.best(3), 127 * 127);
        dueSet("three levels of blue", x, 0, 1, 2);
        check.taken("one more than levels", x, x.best(4), 0);
        dueSet("one more than levels", x, 0, 1, 2, 3);
        x.grid(4);
        check.taken("four levels of blue", x, x.best(4), 85 * 85);
        dueSet("four levels of blue", x, 0, 1, 2, 3);
    }

    private static void bestAndFixedOnes() {
        check.part("23, III: of any of them and any FIXED COLOUR");
        ColoursApart x = new ColoursApart();
        x.grid(2);
        x.add(0, true);
        check.taken("five beside black", x, x.best(5), 65025);
        dueSet("five beside black", x, 1, 2, 3, 4, 5);
        check.taken("two beside black", x, x.best(2), 130050);
        dueSet("two beside black", x, 3, 5);
        for (int p = 1; p < 8; p++) {
            x.add(x.place(p), true);
        }
        check.taken("each place has a FIXED one", x, x.best(1), 0);
        dueSet("the first", x, 0);
        check.taken("each place has a FIXED one", x, x.best(5), 0);
        dueSet("the first", x, 0, 1, 2, 3, 4);
        x.fix(6, false);
        check.taken("one of the eight is FREE", x, x.best(1), 65025);
        dueSet("its place", x, 6);
        for (int i = 8; i < 12; i++) {
            x.add(0xFFFF01, i == 11);
        }
        check.taken("the last of twelve is FIXED", x, x.best(1), 1);
        dueSet("its place", x, 6);
    }

    private static void chosen() {
        check.part("24: place k of the latest BEST SET; NONE");
        edges.askedRange("chosen", 0, 2, -1, (x, k) -> x.chosen(k));
        edges.asked("chosen(3)", -1, x -> x.chosen(3));
        edges.askedOf(ColoursApart::new, "none yet", -1, x -> x.chosen(0));
        for (int n = 1; n <= 5; n++) {
            ColoursApart x = new ColoursApart();
            x.best(n == 1 ? 5 : 1);
            x.best(n);
            check.due("the first", x.chosen(0), 0);
            check.due("the last is there", x.chosen(n - 1) >= 0 ? 1 : 0, 1);
            check.due("behind the last", x.chosen(n), -1);
            check.due("ahead of the first", x.chosen(-1), -1);
            for (int k = 1; k < n; k++) {
                check.due("upwards", x.chosen(k) > x.chosen(k - 1) ? 1 : 0, 1);
            }
        }
    }

    private static ColoursApart alone() {
        ColoursApart x = new ColoursApart();
        x.add(0x123456, false);
        return x;
    }

    /** All are FREE, and no PAIR asks for more than they have. */
    private static ColoursApart roomy() {
        ColoursApart x = Busy.make();
        x.fix(0, false);
        x.fix(3, false);
        x.pair(0, 1, 10);
        x.pair(2, 1, 10);
        x.pair(4, 0, 10);
        return x;
    }

    private static void moveRefused() {
        check.part("25: -1; -2; -6 it is FIXED, or there is no such place");
        edges.rangeOf(EdgesOfChoiceTest::alone, "move(0, ..)", 1, FARTHEST, -1, (x, d) -> x.move(0, d));
        for (int d : new int[] {0, -1, FARTHEST + 1, MIN, MAX}) {
            edges.refused("move(2, " + d + ")", -1, x -> x.move(2, d));
        }
        edges.rangeOf(EdgesOfChoiceTest::roomy, "move(.., 1)", 0, 4, -2, (x, i) -> x.move(i, 1));
        edges.refusedOf(ColoursApart::new, "an empty HOUSE", -2, x -> x.move(0, 1));
        edges.refused("FIXED, as the first", -6, x -> x.move(0, 1));
        edges.refused("FIXED, with a NAME", -6, x -> x.move(3, 1));
        edges.refused("no such place", -6, x -> x.move(1, FARTHEST));
        edges.refused("no such place", -6, x -> x.move(2, FARTHEST));
    }

    private static void moveOrder() {
        check.part("25: -1 goes ahead of -2 and of -6");
        edges.refused("move(5, 0)", -1, x -> x.move(5, 0));
        edges.refused("move(-1, FARTHEST + 1)", -1, x -> x.move(-1, FARTHEST + 1));
        edges.refused("move(0, 0): FIXED", -1, x -> x.move(0, 0));
        edges.refused("move(3, FARTHEST + 1): FIXED", -1, x -> x.move(3, FARTHEST + 1));
        edges.refusedOf(ColoursApart::new, "move(0, 0) of an empty HOUSE", -1, x -> x.move(0, 0));
    }

    private static void moveAlone() {
        check.part("25: a COLOUR that is alone stays");
        for (int d : new int[] {1, 195075, 195076, FARTHEST}) {
            ColoursApart x = alone();
            check.taken("move(0, " + d + ")", x, x.move(0, d), 0);
            check.due("of(0, 0)", x.of(0, 0), 0x123456);
            x.weights(0, 0, 0);
            check.taken("without WEIGHTS", x, x.move(0, d), 0);
            check.due("of(0, 0)", x.of(0, 0), 0x123456);
        }
        edges.changesNothing(EdgesOfChoiceTest::roomy, "who may stay stays", x -> x.move(4, 1));
    }

    private static void dueMove(ColoursApart x, int i, int d, int moved, int colour) {
        check.taken("move by " + d, x, x.move(i, d), moved);
        check.due("where it is", x.of(i, 0), colour);
    }

    private static ColoursApart blackAnd(int colour) {
        ColoursApart x = new ColoursApart();
        x.grid(2);
        x.add(0, true);
        x.add(colour, false);
        return x;
    }

    private static void moveByDAtLeast() {
        check.part("25, IV: APART by D at least");
        dueMove(blackAnd(5), 1, 24, 0, 5);
        dueMove(blackAnd(5), 1, 25, 0, 5);
        dueMove(blackAnd(5), 1, 26, 62500, 0x0000FF);
        dueMove(blackAnd(5), 1, 65025, 62500, 0x0000FF);
        dueMove(blackAnd(5), 1, 65026, 127525, 0x00FFFF);
        dueMove(blackAnd(5), 1, 130050, 127525, 0x00FFFF);
        dueMove(blackAnd(5), 1, 130051, 192550, WHITE);
        dueMove(blackAnd(5), 1, 195075, 192550, WHITE);
        edges.refusedOf(() -> blackAnd(5), "195076", -6, x -> x.move(1, 195076));
        edges.refusedOf(() -> blackAnd(0), "the same COLOUR", -6, x -> x.move(1, 195076));
        dueMove(blackAnd(0), 1, 1, 65025, 0x0000FF);
        check.part("25, IV: the greatest D that there can be");
        ColoursApart x = blackAnd(5);
        x.weights(10, 10, 10);
        edges.changesNothing(() -> blackAnd(5), "no place", y -> y.move(1, 1950751));
        check.refused("1950751", x, x.move(1, 1950751), -6);
        dueMove(x, 1, 1950750, 1925500, WHITE);
        check.part("25, IV: without WEIGHTS no two are APART");
        ColoursApart z = blackAnd(WHITE);
        z.weights(0, 0, 0);
        check.refused("move(1, 1)", z, z.move(1, 1), -6);
    }

    private static void moveFromAllOthers() {
        check.part("25, IV: from all others of the HOUSE");
        ColoursApart x = blackAnd(0x000001);
        x.add(0x0000FF, false);
        x.add(0x00FE00, true);
        dueMove(x, 1, 2, 65026, 0xFF0000);
        ColoursApart y = blackAnd(0x000001);
        for (int i = 2; i < 11; i++) {
            y.add(WHITE, false);
        }
        y.add(0x0000FF, false);
        dueMove(y, 1, 2, 65026, 0x00FF00);
        y.set(11, WHITE);
        y.set(1, 1);
        dueMove(y, 1, 2, 64516, 0x0000FF);
        dueMove(y, 11, 2, 65025, 0x00FFFF);
    }

    /** With blue's WEIGHT alone a place may be at no DISTANCE, and yet another COLOUR. */
    private static ColoursApart blueAlone(int c) {
        ColoursApart x = new ColoursApart();
        x.grid(2);
        x.weights(0, 0, 1);
        x.add(0x102000, false);
        x.add(0x0000FF, true);
        x.pair(0, 1, c);
        return x;
    }

    private static void moveItselfFirst() {
        check.part("25, IV: of those alike itself, then the lower place");
        dueMove(blueAlone(10), 0, 65025, 0, 0x102000);
        dueMove(blueAlone(11), 0, 65025, 0, 0x102000);
        dueMove(blueAlone(12), 0, 65025, 0, 0);
        dueMove(blueAlone(32), 0, 65025, 0, 0);
        dueMove(blueAlone(33), 0, 65025, 0, 0x00FF00);
        dueMove(blueAlone(38), 0, 65025, 0, 0x00FF00);
        dueMove(blueAlone(39), 0, 65025, 0, 0xFFFF00);
        dueMove(blueAlone(56), 0, 65025, 0, 0xFFFF00);
        edges.refusedOf(() -> blueAlone(57), "none meets it", -6, x -> x.move(0, 65025));
        ColoursApart x = new ColoursApart();
        x.grid(2);
        x.add(0x7F7F7F, false);
        x.add(0x7F7F7F, true);
        dueMove(x, 0, 1, 127 * 127 * 3, 0);
        ColoursApart y = new ColoursApart();
        y.grid(2);
        y.add(0x000001, false);
        y.add(0, true);
        y.add(0x0000FF, true);
        dueMove(y, 0, 2, 65026, 0x00FF00);
    }

    private static void moveInPlain() {
        check.part("25, IV: of least DISTANCE in PLAIN, though GREY alone COUNTS");
        for (int d : new int[] {2523, 2524}) {
            ColoursApart x = blackAnd(0x0000FF);
            x.sights(16);
            dueMove(x, 1, d, d == 2523 ? 0 : 65025, d == 2523 ? 0x0000FF : 0x00FFFF);
        }
    }

    private static void moveInBox() {
        check.part("25, IV: in its NAME's box");
        for (int step : new int[] {0, 1}) {
            ColoursApart x = blackAnd(0x000001);
            x.name(1, 7);
            x.box(7, 0, 0x0000FF - step);
            check.due("blue at to, then beyond it", x.move(1, 2), step == 0 ? 254 * 254 : -6);
            check.due("where it is", x.of(1, 0), step == 0 ? 0x0000FF : 1);
            ColoursApart y = new ColoursApart();
            y.grid(2);
            y.add(WHITE, true);
            y.add(0xFFFFFE, false);
            y.name(1, 0);
            y.box(0, 0xFFFF00 + step, WHITE);
            check.due("yellow at from, then beyond it", y.move(1, 2), step == 0 ? 254 * 254 : -6);
            check.due("where it is", y.of(1, 0), step == 0 ? 0xFFFF00 : 0xFFFFFE);
        }
        ColoursApart x = blackAnd(0x000005);
        x.name(1, 7);
        x.box(7, 5, 5);
        dueMove(x, 1, 25, 0, 5);
        check.refused("a box of one COLOUR", x, x.move(1, 26), -6);
        check.due("where it is", x.of(1, 0), 5);
    }

    private static ColoursApart lightSevenAnd(int c) {
        ColoursApart x = new ColoursApart();
        x.grid(2);
        x.add(0x070707, true);
        x.add(0x000080, false);
        x.pair(1, 0, c);
        return x;
    }

    private static void moveMeetsContrasts() {
        check.part("25, IV: and meets the CONTRASTS of its PAIRS");
        dueMove(lightSevenAnd(13), 1, 1, 0, 0x000080);
        dueMove(lightSevenAnd(14), 1, 1, 127 * 127, 0x0000FF);
        dueMove(lightSevenAnd(21), 1, 1, 127 * 127, 0x0000FF);
        dueMove(lightSevenAnd(22), 1, 1, 65025 + 127 * 127, 0x00FFFF);
        dueMove(lightSevenAnd(95), 1, 1, 65025 + 127 * 127, 0x00FFFF);
        dueMove(lightSevenAnd(96), 1, 1, 2 * 65025 + 127 * 127, WHITE);
        dueMove(lightSevenAnd(134), 1, 1, 2 * 65025 + 127 * 127, WHITE);
        edges.refusedOf(() -> lightSevenAnd(135), "268 / 20 is 13.4", -6, x -> x.move(1, 1));
        check.part("25, IV: PAIRS of others are not asked");
        ColoursApart x = lightSevenAnd(13);
        x.add(0, false);
        x.pair(0, 2, 210);
        dueMove(x, 1, 1, 0, 0x000080);
        check.refused("its own are", x, x.move(2, 1), -6);
    }

    /** Twelve grey COLOURS; of the twenty PAIRS the first one is of 0 and 10, the last one of 9 and 11. */
    private static ColoursApart twentyPairs(int first, int last) {
        ColoursApart x = new ColoursApart();
        x.grid(2);
        for (int i = 0; i < 12; i++) {
            x.add((100 + i) * 0x010101, false);
        }
        for (int p = 0; p < 20; p++) {
            x.pair(p % 10, p < 10 ? 10 : 11, p == 0 ? first : p == 19 ? last : 10);
        }
        return x;
    }

    private static void moveWithTwentyPairs() {
        check.part("25, IV: the first and the last of 20 PAIRS");
        check.due("20 PAIRS", twentyPairs(10, 10).count(2), 20);
        for (int i = 0; i < 12; i++) {
            dueMove(twentyPairs(10, 10), i, 3, 0, (100 + i) * 0x010101);
        }
        dueMove(twentyPairs(11, 10), 0, 3, 3 * 100 * 100, 0);
        dueMove(twentyPairs(11, 10), 10, 3, 3 * 110 * 110, 0);
        dueMove(twentyPairs(11, 10), 9, 3, 0, 109 * 0x010101);
        dueMove(twentyPairs(10, 11), 9, 3, 3 * 109 * 109, 0);
        dueMove(twentyPairs(10, 11), 11, 3, 3 * 111 * 111, 0);
        dueMove(twentyPairs(10, 11), 0, 3, 0, 100 * 0x010101);
    }

    private static void movePlacesOfEachGrid() {
        check.part("25, IV: to a place of the GRID as it is");
        int[] nearest = {0, 0, 255, 127, 85};
        for (int l = 2; l <= 4; l++) {
            ColoursApart x = blackAnd(0x000001);
            x.grid(l);
            dueMove(x, 1, 2, (nearest[l] - 1) * (nearest[l] - 1), nearest[l]);
            x.set(1, WHITE - 1);
            x.fix(0, false);
            x.set(0, WHITE);
            dueMove(x, 1, 195075, 254 * 254 + 2 * 65025, 0);
            x.set(1, WHITE - 1);
            x.set(0, 0);
            dueMove(x, 1, 195075, 1, WHITE);
        }
    }

    private static void settleRefused() {
        check.part("26: SETTLE by D. -1");
        edges.range("settle", 1, FARTHEST, -1, (x, d) -> x.settle(d));
        edges.rangeOf(EdgesOfChoiceTest::alone, "settle of one", 1, FARTHEST, -1, (x, d) -> x.settle(d));
        edges.rangeOf(ColoursApart::new, "settle of none", 1, FARTHEST, -1, (x, d) -> x.settle(d));
    }

    private static void dueSettle(String what, ColoursApart x, int d, int moves, int stuck) {
        check.taken(what + ": settle(" + d + ")", x, x.settle(d), moves);
        check.due(what + ": stuck()", x.stuck(), stuck);
    }

    private static void settleOfFew() {
        check.part("26: an empty HOUSE, a COLOUR that is alone");
        for (int d : new int[] {1, FARTHEST}) {
            dueSettle("an empty HOUSE", new ColoursApart(), d, 0, 0);
            dueSettle("a FREE one", alone(), d, 0, 0);
            ColoursApart x = alone();
            x.fix(0, true);
            dueSettle("a FIXED one", x, d, 0, 0);
            check.due("it stays", x.of(0, 0), 0x123456);
        }
    }

    private static void settleLessThanD() {
        check.part("26, IV: as long as two COLOURS are APART by less than D");
        for (int d = 24; d <= 26; d++) {
            ColoursApart x = blackAnd(5);
            dueSettle("25 APART", x, d, d == 26 ? 1 : 0, 0);
            check.due("where it is", x.of(1, 0), d == 26 ? 0x0000FF : 5);
        }
        ColoursApart x = blackAnd(0);
        dueSettle("the same COLOUR", x, 1, 1, 0);
        check.due("where it is", x.of(1, 0), 0x0000FF);
        ColoursApart y = blackAnd(5);
        dueSettle("195075 is the most", y, 195075, 1, 0);
        check.due("where it is", y.of(1, 0), WHITE);
        ColoursApart z = blackAnd(5);
        dueSettle("no place", z, 195076, 0, 1);
        check.due("where it is", z.of(1, 0), 5);
    }

    private static void settleLaterFree() {
        check.part("26, IV: the later one that is FREE (if there is none: STUCK)");
        for (int fixed = 0; fixed < 4; fixed++) {
            ColoursApart x = new ColoursApart();
            x.grid(2);
            x.add(0x000003, (fixed & 1) == 1);
            x.add(0x000005, (fixed & 2) == 2);
            dueSettle("4 APART", x, 4, 0, 0);
            dueSettle("4 APART", x, 5, fixed == 3 ? 0 : 1, fixed == 3 ? 1 : 0);
            check.due("the lower one", x.of(0, 0), fixed == 2 ? 0 : 3);
            check.due("the later one", x.of(1, 0), fixed < 2 ? 0 : 5);
        }
        check.part("26, IV: of those two alone, not of any");
        ColoursApart x = new ColoursApart();
        x.add(0x000003, true);
        x.add(0x000004, true);
        x.add(0x000010, false);
        dueSettle("two FIXED ones are nearest", x, 200, 0, 1);
        check.due("the FREE one stays", x.of(2, 0), 0x10);
    }

    private static void settleNearestFirst() {
        check.part("26, IV: of those two that are nearest");
        for (int third = 0x12; third <= 0x14; third++) {
            ColoursApart x = new ColoursApart();
            x.add(0x000010, false);
            x.add(0x800010, false);
            x.add(0x800012, false);
            x.add(0x000000 + third, false);
            x.name(2, 0);
            x.box(0, 0x800012, 0x800012);
            dueSettle("1 and 2 are 4 APART and stuck", x, 100, third == 0x12 ? 1 : 0, 1);
            check.due("the last was moved if not farther", x.of(3, 0), third == 0x12 ? 0 : third);
        }
        ColoursApart x = new ColoursApart();
        x.add(0x000010, false);
        x.add(0x800010, false);
        x.add(0x800012, false);
        x.add(0x000011, false);
        x.name(2, 0);
        x.box(0, 0x800012, 0x800012);
        dueSettle("0 and 3 are nearer", x, 100, 1, 1);
        check.due("the last was moved", x.of(3, 0), 0);
    }

    /** Three COLOURS, each 200 APART from each other, of which `held` has no place to go to. */
    private static ColoursApart threeAlike(int held, int fixed) {
        ColoursApart x = new ColoursApart();
        x.grid(2);
        int[] colours = {0x0A0000, 0x000A00, 0x00000A};
        for (int i = 0; i < 3; i++) {
            x.add(colours[i], i == fixed);
        }
        x.box(4, colours[held], colours[held]);
        x.name(held, 4);
        return x;
    }

    private static void settleFirstAsRows() {
        check.part("26, IV: the first as rows, the lower first");
        dueSettle("none is nearer than 200", threeAlike(2, -1), 200, 0, 0);
        ColoursApart x = threeAlike(2, -1);
        dueSettle("0 and 1 go first: 1 is moved, then 2 is stuck", x, 201, 1, 1);
        check.due("1 was moved", x.of(1, 0), 0x00FF00);
        check.due("2 stays", x.of(2, 0), 0x00000A);
        ColoursApart y = threeAlike(1, -1);
        dueSettle("0 and 1 go first: 1 is stuck", y, 201, 0, 1);
        check.due("2 stays", y.of(2, 0), 0x00000A);
        ColoursApart z = threeAlike(1, 2);
        z.set(0, 0x0A0001);
        dueSettle("0 and 2 are nearest: 0 is moved, then 1 is stuck", z, 201, 1, 1);
        check.due("0 was moved", z.of(0, 0), 0xFF0000);
        ColoursApart w = new ColoursApart();
        w.grid(2);
        w.add(0x000020, false);
        w.add(0x000040, false);
        w.add(0x000030, true);
        w.box(1, 0x000040, 0x000040);
        w.name(1, 1);
        dueSettle("0 and 2 go ahead of 1 and 2", w, 257, 1, 1);
        check.due("0 was moved", w.of(0, 0), 0);
    }

    private static void settleMovedOnesStay() {
        check.part("26, IV: STUCK, the end; COLOURS moved so far stay");
        ColoursApart x = new ColoursApart();
        x.grid(2);
        for (int i = 0; i < 12; i++) {
            x.add(0, false);
        }
        dueSettle("eight places for twelve", x, 1, 7, 1);
        int[] due = {0, 1, 2, 4, 3, 5, 6, 7, 0, 0, 0, 0};
        for (int i = 0; i < 12; i++) {
            check.due("COLOUR " + i, x.of(i, 0), x.place(due[i]));
        }
        dueSettle("once more", x, 1, 0, 1);
        check.part("26: MOVE by D looks at boxes and PAIRS");
        ColoursApart y = lightSevenAnd(22);
        y.set(1, 0x070707);
        dueSettle("a PAIR", y, 1, 1, 0);
        check.due("red is as near, green is the lower place", y.of(1, 0), 0x00FF00);
        ColoursApart z = blackAnd(0);
        z.name(1, 3);
        z.box(3, 0, 0xFF0000);
        dueSettle("a box", z, 1, 1, 0);
        check.due("red", z.of(1, 0), 0xFF0000);
        dueSettle("PAIRS alone make no MOVE", lightSevenAnd(22), 1, 0, 0);
    }

    private static void settleTwelve() {
        check.part("26: how often a COLOUR was moved");
        ColoursApart x = new ColoursApart();
        for (int i = 0; i < 12; i++) {
            x.add(0, false);
        }
        dueSettle("twelve black ones", x, 1, 11, 0);
        int[] due = {0, 1, 3, 9, 4, 10, 12, 13, 2, 6, 18, 5};
        for (int i = 0; i < 12; i++) {
            check.due("COLOUR " + i, x.of(i, 0), x.place(due[i]));
        }
        dueSettle("they are apart now", x, 16128, 0, 0);
        dueSettle("they are apart now", x, 16129, 0, 0);
    }

    /** A moved one is D apart from all others, so each is moved once at most, and one of them never. */
    private static void settleEnds() {
        check.part("26: (Ended after 50 MOVES at most, as STUCK.)");
        int number = 1;
        for (int times = 0; times < 200; times++) {
            ColoursApart x = new ColoursApart();
            x.grid(2 + times % 3);
            for (int i = 0; i < 12; i++) {
                number = number * 1103515245 + 12345;
                x.add(number >>> 8 & 0x3F3F3F, i % 4 == times % 5);
            }
            int d = 1 + times * times;
            int moves = x.settle(d);
            check.due("0 .. 11 moves (" + moves + ")", moves >= 0 && moves <= 11 ? 1 : 0, 1);
            int least = FARTHEST;
            for (int i = 0; i < 12; i++) {
                least = Math.min(least, x.of(i, 3));
            }
            check.due("STUCK if two are APART by less than D", x.stuck(), least < d ? 1 : 0);
        }
    }

    private static void stuck() {
        check.part("27: whether the latest settle() was STUCK");
        edges.askedOf(ColoursApart::new, "none yet", 0, x -> x.stuck());
        edges.asked("STUCK", 1, x -> x.stuck());
        edges.askedOf(() -> {
            ColoursApart x = Busy.make();
            x.settle(1);
            return x;
        }, "not STUCK", 0, x -> x.stuck());
        for (int d : new int[] {0, FARTHEST + 1, -1, MIN, MAX}) {
            ColoursApart x = Busy.make();
            check.refused("settle(" + d + ")", x, x.settle(d), -1);
            check.due("1 still", x.stuck(), 1);
            x.settle(1);
            check.refused("settle(" + d + ")", x, x.settle(d), -1);
            check.due("0 still", x.stuck(), 0);
        }
    }

    private static void rampRefused() {
        check.part("28: -1; V: n steps (2 .. 12)");
        edges.range("ramp(0, WHITE, ..)", 2, 12, -1, (x, n) -> x.ramp(0, WHITE, n));
        for (int colour : new int[] {-1, WHITE + 1, MIN, MAX}) {
            edges.refused("ramp(" + colour + ", WHITE, 5)", -1, x -> x.ramp(colour, WHITE, 5));
            edges.refused("ramp(0, " + colour + ", 5)", -1, x -> x.ramp(0, colour, 5));
        }
        check.part("28: -1 goes ahead of -6");
        edges.refused("ramp(WHITE, 0, 1)", -1, x -> x.ramp(WHITE, 0, 1));
        edges.refused("ramp(WHITE, 0, 13)", -1, x -> x.ramp(WHITE, 0, 13));
        edges.refused("ramp(0, -1, 5)", -1, x -> x.ramp(0, -1, 5));
        edges.refused("ramp(WHITE + 1, 0, 5)", -1, x -> x.ramp(WHITE + 1, 0, 5));
    }

    private static void rampDarker() {
        check.part("28, V: a darker than b; else REFUSED by -6");
        edges.refused("the same COLOUR", -6, x -> x.ramp(0x123456, 0x123456, 2));
        edges.refused("black and black", -6, x -> x.ramp(0, 0, 2));
        edges.refused("black and blue 8: LIGHT 0", -6, x -> x.ramp(0, 8, 12));
        edges.refused("white and white", -6, x -> x.ramp(WHITE, WHITE, 2));
        edges.refused("LIGHT 4 and 4", -6, x -> x.ramp(0x0B000F, 0x040404, 2));
        edges.refused("LIGHT 4 and 4", -6, x -> x.ramp(0x040404, 0x0B000F, 2));
        edges.refused("LIGHT 5 and 4", -6, x -> x.ramp(0x050505, 0x0B000F, 2));
        edges.refused("white and black", -6, x -> x.ramp(WHITE, 0, 12));
        ColoursApart x = Busy.make();
        check.taken("LIGHT 4 and 5", x, x.ramp(0x0B000F, 0x050505, 2), 26);
        check.due("its last step", x.step(1), 0x0A010E);
        check.taken("LIGHT 0 and 1", x, x.ramp(0, 0x010101, 2), 128);
        check.taken("LIGHT 254 and 255", x, x.ramp(0xFEFEFE, WHITE, 2), 128);
        check.taken("LIGHT 0 and 255", x, x.ramp(0, WHITE, 2), 255);
    }

    private static void dueSteps(ColoursApart x, int... colours) {
        for (int j = 0; j < colours.length; j++) {
            check.due("step(" + j + ")", x.step(j), colours[j]);
        }
        check.due("behind the last", x.step(colours.length), -1);
    }

    private static void rampSteps() {
        check.part("28, V: (LIGHT of b less LIGHT of a) times j / (n - 1), cut, more");
        ColoursApart x = new ColoursApart();
        check.taken("10 in thirds", x, x.ramp(0, 0x0A0A0A, 4), 243);
        dueSteps(x, 0, 0x030303, 0x060606, 0x0A0A0A);
        check.taken("10 in elevenths", x, x.ramp(0, 0x0A0A0A, 12), 243);
        dueSteps(x, 0, 0, 0x010101, 0x020202, 0x030303, 0x040404, 0x050505, 0x060606, 0x070707, 0x080808,
                0x090909, 0x0A0A0A);
        check.taken("255 in elevenths", x, x.ramp(0, WHITE, 12), 255);
        dueSteps(x, 0, 0x171717, 0x2E2E2E, 0x454545, 0x5C5C5C, 0x737373, 0x8B8B8B, 0xA2A2A2, 0xB9B9B9,
                0xD0D0D0, 0xE7E7E7, WHITE);
        check.taken("1 in halves", x, x.ramp(0, 0x010101, 3), 128);
        dueSteps(x, 0, 0, 0x010101);
        check.taken("two steps", x, x.ramp(0, 0x010101, 2), 128);
        dueSteps(x, 0, 0x010101);
        check.taken("from 76 to 149", x, x.ramp(0xFF0000, 0x00FF00, 3), 253);
        dueSteps(x, 0xFF0000, 0x827D00, 0x02FD00);
    }

    private static void rampPoints() {
        check.part("28, V: (a (255 - t) + b t + 127) / 255, cut");
        ColoursApart x = new ColoursApart();
        check.taken("red from 100 to 200", x, x.ramp(0x640A00, 0xC80B00, 3), 254);
        dueSteps(x, 0x640A00, 0x940A00, 0xC80B00);
        check.part("28, V: the first point whose LIGHT reaches it");
        check.taken("LIGHT rises, falls and rises", x, x.ramp(0x0000FF, 0x003500, 2), 219);
        dueSteps(x, 0x0000FF, 0x002E24);
        check.due("LIGHT of b", x.light(0x003500), 31);
        check.due("LIGHT of that point", x.light(0x002E24), 31);
        check.due("LIGHT of the point ahead", x.light(0x002D25), 30);
        check.part("28: at which point its last step lies: 255 at most");
        check.taken("the last point", x, x.ramp(0, WHITE, 12), 255);
        check.taken("blue reaches LIGHT 1 at 9", x, x.ramp(0, 9, 12), 241);
        check.taken("blue reaches LIGHT 1 at 9", x, x.ramp(0, 17, 2), 128);
    }

    private static void step() {
        check.part("29: step j of the latest RAMP; NONE");
        edges.askedRange("step", 0, 4, -1, (x, j) -> x.step(j));
        edges.askedOf(ColoursApart::new, "no RAMP", -1, x -> x.step(0));
        for (int n = 2; n <= 12; n++) {
            ColoursApart x = new ColoursApart();
            x.ramp(0, WHITE, n == 2 ? 12 : 2);
            x.ramp(0x010101, 0xF0F0F0, n);
            check.due("ahead of the first", x.step(-1), -1);
            check.due("the first is a", x.step(0), 0x010101);
            check.due("the last", x.step(n - 1), 0xF0F0F0);
            check.due("behind the last", x.step(n), -1);
        }
    }

    private static void risingRefused() {
        check.part("30: NONE (a SIGHT; no RAMP)");
        edges.askedRange("rising", 0, 5, -1, (x, sight) -> x.rising(sight));
        for (int sight = -1; sight < 7; sight++) {
            int one = sight;
            edges.askedOf(ColoursApart::new, "no RAMP", -1, x -> x.rising(one));
        }
        ColoursApart x = new ColoursApart();
        check.refused("a refused RAMP is none", x, x.ramp(WHITE, 0, 5), -6);
        check.due("rising(0)", x.rising(0), -1);
    }

    private static void risingGreater() {
        check.part("30, V: LIGHT of what is seen is greater at each step than ahead of it");
        ColoursApart x = new ColoursApart();
        x.ramp(0, 0x010101, 2);
        check.due("0, 1", x.rising(0), 1);
        check.due("0, 1 in GREY", x.rising(4), 1);
        check.due("0, 0 in PRINT", x.rising(5), 0);
        x.ramp(0, 0x010101, 3);
        check.due("0, 0, 1", x.rising(0), 0);
        x.ramp(0, 0x0B0B0B, 12);
        check.due("twelve that grow by one", x.rising(0), 1);
        x.ramp(0, 0x0A0A0A, 12);
        check.due("the first two alike", x.rising(0), 0);
        x.ramp(0, WHITE, 5);
        check.due("five steps, five LEVELS", x.rising(5), 1);
        x.levels(4);
        check.due("five steps, four LEVELS", x.rising(5), 0);
        x.levels(5);
        check.due("as SIGHTS are now", x.rising(5), 1);
        x.ramp(0xFF0000, 0x00FF00, 2);
        Busy.fill(x, 0, 2, 1000, 0, 0);
        x.weak(1, 0, 0);
        check.due("red alone falls", x.rising(1), 0);
        check.due("another SIGHT", x.rising(2), 1);
        Busy.fill(x, 0, 2, 0, 1000, 0);
        x.weak(1, 0, 0);
        check.due("green alone rises", x.rising(1), 1);
        x.ramp(0x400000, 0xFF0000, 3);
        check.due("no green: all alike", x.rising(1), 0);
    }

    private static void groupRefused() {
        check.part("31: -1 SIGHT, D (0 .. 2,000,000); -2");
        edges.askedRange("group(.., 5, 0)", 0, 5, -1, (x, sight) -> x.group(sight, 5, 0));
        edges.askedRange("group(0, .., 0)", 0, FARTHEST, -1, (x, d) -> x.group(0, d, 0));
        edges.askedRange("group(0, 5, ..)", 0, 4, -2, (x, i) -> x.group(0, 5, i));
        edges.askedOf(ColoursApart::new, "an empty HOUSE", -2, x -> x.group(0, 5, 0));
        check.part("31: -1 goes ahead of -2");
        edges.asked("group(6, 5, 5)", -1, x -> x.group(6, 5, 5));
        edges.asked("group(-1, 5, -1)", -1, x -> x.group(-1, 5, -1));
        edges.asked("group(0, -1, 5)", -1, x -> x.group(0, -1, 5));
        edges.asked("group(0, FARTHEST + 1, 5)", -1, x -> x.group(0, FARTHEST + 1, 5));
    }

    private static void groupBelowD() {
        check.part("31, VI: two COLOURS whose DISTANCE there is below D");
        ColoursApart x = new ColoursApart();
        x.add(0x000010, false);
        check.due("alone", x.group(0, FARTHEST, 0), 0);
        x.add(0x000015, true);
        x.add(0x000010, true);
        for (int d = 24; d <= 26; d++) {
            check.due("25 below " + d, x.group(0, d, 1), d == 26 ? 0 : 1);
            check.due("the lowest stays", x.group(0, d, 0), 0);
        }
        check.due("0 is not below 0", x.group(0, 0, 2), 2);
        check.due("0 is below 1", x.group(0, 1, 2), 0);
        check.due("25 is not below 1", x.group(0, 1, 1), 1);
        x.weights(10, 10, 10);
        x.add(WHITE, false);
        x.set(0, 0);
        check.due("1950750 is below 2000000", x.group(0, FARTHEST, 3), 0);
        ColoursApart y = new ColoursApart();
        y.weights(10, 10, 10);
        y.add(WHITE, false);
        y.add(0, false);
        check.due("1950750 is not below itself", y.group(0, 1950750, 1), 1);
        check.due("1950750 is below 1950751", y.group(0, 1950751, 1), 0);
        check.part("31: DISTANCE in that SIGHT, whether it COUNTS or not");
        y.set(0, 0x000002);
        check.due("40 in PLAIN", y.group(0, 40, 1), 1);
        check.due("0 in GREY", y.group(4, 1, 1), 0);
        check.due("0 in PRINT", y.group(5, 1, 1), 0);
    }

    private static void groupLedTogether() {
        check.part("31, VI: so are all that are led together so; the lowest number in it");
        ColoursApart x = new ColoursApart();
        int[] blues = {110, 0, 100, 10, 90, 20, 80, 30, 70, 40, 60, 50};
        for (int blue : blues) {
            x.add(blue, false);
        }
        for (int i = 0; i < 12; i++) {
            check.due("by 101", x.group(0, 101, i), 0);
            check.due("by 100", x.group(0, 100, i), i);
        }
        x.set(11, 51);
        for (int i = 0; i < 12; i++) {
            boolean upper = blues[i] > 45;
            check.due("51 is led to 60, 40 not to 51", x.group(0, 101, i), upper ? 0 : 1);
        }
    }
}
