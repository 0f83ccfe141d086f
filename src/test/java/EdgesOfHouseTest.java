/** Boundaries that term II and promises 14 to 22 name; the part of each check quotes the sentence. */
public final class EdgesOfHouseTest {
    private static final int MIN = Integer.MIN_VALUE;
    private static final int MAX = Integer.MAX_VALUE;
    private static final int WHITE = 0xFFFFFF;
    private static final int[] CHANNELS = {0x010000, 0x000100, 0x000001};
    private static final Check check = new Check();
    private static final Edges edges = new Edges(check);

    public static void main(String[] args) {
        addRefused();
        addTwelve();
        addFull();
        setRefused();
        setOrder();
        setInBox();
        setTellsWhatItWas();
        fix();
        fixInAFullHouse();
        nameRefused();
        nameInBox();
        nameIsKept();
        eachName();
        boxRefused();
        boxFromAboveTo();
        boxWouldLeaveOut();
        boxOfOthers();
        pairRefused();
        pairOrder();
        pairToldAgain();
        pairsFull();
        contrastRefused();
        contrastLowestTerms();
        contrastInPlain();
        unmetAtItsEdge();
        unmetTenths();
        unmetFirst();
        of();
        ofLeastApart();
        check.end("EdgesOfHouseTest");
    }

    private static ColoursApart fullHouse() {
        ColoursApart x = Busy.make();
        for (int i = 5; i < 12; i++) {
            x.add(i * 0x050607, i % 2 == 0);
        }
        return x;
    }

    private static ColoursApart allFree() {
        ColoursApart x = Busy.make();
        x.fix(0, false);
        x.fix(3, false);
        return x;
    }

    private static ColoursApart fullPairs() {
        ColoursApart x = fullHouse();
        for (int k = 3; x.count(2) < 20; k++) {
            x.pair(k % 11, 11 - k / 11, 10);
        }
        return x;
    }

    private static void addRefused() {
        check.part("14: a COLOUR comes into the HOUSE. -1");
        edges.range("add(.., false)", 0, WHITE, -1, (x, c) -> x.add(c, false));
        edges.range("add(.., true)", 0, WHITE, -1, (x, c) -> x.add(c, true));
    }

    private static void addTwelve() {
        check.part("14: its number; II: 12 COLOURS at most, numbered as they come");
        for (boolean fixed : new boolean[] {false, true}) {
            ColoursApart x = new ColoursApart();
            for (int i = 0; i < 12; i++) {
                check.due("no such COLOUR yet", x.of(i, 0), -2);
                check.taken("add", x, x.add(i * 0x010203, fixed), i);
                check.due("its COLOUR", x.of(i, 0), i * 0x010203);
                check.due("FIXED or FREE", x.of(i, 1), fixed ? 1 : 0);
                check.due("without a NAME", x.of(i, 2), -1);
                check.due("count(0)", x.count(0), i + 1);
                check.due("count(1)", x.count(1), fixed ? i + 1 : 0);
            }
            check.refused("the thirteenth", x, x.add(5, fixed), -5);
            check.due("count(0)", x.count(0), 12);
            check.due("there is no number 12", x.of(12, 0), -2);
        }
        ColoursApart y = new ColoursApart();
        y.add(7, false);
        check.taken("the same COLOUR comes again", y, y.add(7, true), 1);
    }

    private static void addFull() {
        check.part("14: -5; -1 goes ahead of -5");
        edges.refusedOf(EdgesOfHouseTest::fullHouse, "add(0, false)", -5, x -> x.add(0, false));
        edges.refusedOf(EdgesOfHouseTest::fullHouse, "add(WHITE, true)", -5, x -> x.add(WHITE, true));
        edges.refusedOf(EdgesOfHouseTest::fullHouse, "add(-1, false)", -1, x -> x.add(-1, false));
        edges.refusedOf(EdgesOfHouseTest::fullHouse, "add(WHITE + 1, true)", -1, x -> x.add(WHITE + 1, true));
    }

    private static void setRefused() {
        check.part("15: -1 (a COLOUR); -2; -6");
        edges.range("set(1, ..)", 0, WHITE, -1, (x, c) -> x.set(1, c));
        edges.rangeOf(EdgesOfHouseTest::allFree, "set(.., 5)", 0, 4, -2, (x, i) -> x.set(i, 5));
        edges.refused("set(5, 5)", -2, x -> x.set(5, 5));
        edges.refused("set(12, 5)", -2, x -> x.set(12, 5));
        edges.refused("set(0, 5): FIXED", -6, x -> x.set(0, 5));
        edges.refused("set(0, 0): FIXED, the same COLOUR", -6, x -> x.set(0, 0));
        edges.refused("set(3, 0x404080): FIXED, in its box", -6, x -> x.set(3, 0x404080));
        ColoursApart y = fullHouse();
        check.taken("the last of twelve", y, y.set(11, 5), 11 * 0x050607);
        edges.refusedOf(EdgesOfHouseTest::fullHouse, "one behind it", -2, x -> x.set(12, 5));
    }

    private static void setOrder() {
        check.part("15: -1 goes ahead of -2 and of -6");
        edges.refused("set(-1, -1)", -1, x -> x.set(-1, -1));
        edges.refused("set(5, WHITE + 1)", -1, x -> x.set(5, WHITE + 1));
        edges.refused("set(MAX, MIN)", -1, x -> x.set(MAX, MIN));
        edges.refused("set(0, -1)", -1, x -> x.set(0, -1));
        edges.refused("set(3, WHITE + 1)", -1, x -> x.set(3, WHITE + 1));
        edges.refused("set(3, 0x40407F): FIXED, not in its box", -1, x -> x.set(3, 0x40407F));
    }

    /** A box 0x203040 .. 0x708090 for a COLOUR within it. */
    private static ColoursApart boxed() {
        ColoursApart x = Busy.make();
        x.box(6, 0x203040, 0x708090);
        x.set(4, 0x505050);
        x.name(4, 6);
        return x;
    }

    private static void setInBox() {
        check.part("15: -1 (its NAME's box has it not)");
        for (int channel : CHANNELS) {
            ColoursApart x = boxed();
            check.taken("at from", x, x.set(4, 0x203040), 0x505050);
            check.taken("just above from", x, x.set(4, 0x203040 + channel), 0x203040);
            check.taken("at to", x, x.set(4, 0x708090), 0x203040 + channel);
            check.taken("just below to", x, x.set(4, 0x708090 - channel), 0x708090);
            edges.refusedOf(EdgesOfHouseTest::boxed, "just below from", -1, y -> y.set(4, 0x203040 - channel));
            edges.refusedOf(EdgesOfHouseTest::boxed, "just above to", -1, y -> y.set(4, 0x708090 + channel));
        }
        ColoursApart x = boxed();
        check.taken("one without a NAME", x, x.set(1, 0), WHITE);
        x.name(4, -1);
        check.taken("its NAME was taken", x, x.set(4, 0), 0x505050);
    }

    private static void setTellsWhatItWas() {
        check.part("15: what it was");
        ColoursApart x = new ColoursApart();
        x.add(0, false);
        check.taken("set(0, WHITE)", x, x.set(0, WHITE), 0);
        check.taken("set(0, WHITE)", x, x.set(0, WHITE), WHITE);
        check.taken("set(0, 0)", x, x.set(0, 0), WHITE);
        x.fix(0, true);
        check.refused("set(0, 9)", x, x.set(0, 9), -6);
        x.fix(0, false);
        check.taken("set(0, 9)", x, x.set(0, 9), 0);
        check.due("of(0, 0)", x.of(0, 0), 9);
    }

    private static void fix() {
        check.part("16: it is FIXED, or FREE: 0. -2");
        edges.range("fix(.., true)", 0, 4, -2, (x, i) -> x.fix(i, true));
        edges.range("fix(.., false)", 0, 4, -2, (x, i) -> x.fix(i, false));
        edges.refusedOf(ColoursApart::new, "fix(0, true) of an empty HOUSE", -2, x -> x.fix(0, true));
        edges.refusedOf(ColoursApart::new, "fix(0, false) of an empty HOUSE", -2, x -> x.fix(0, false));
        edges.changesNothing(Busy::make, "what is FIXED becomes FIXED", x -> x.fix(3, true));
        edges.changesNothing(Busy::make, "what is FREE becomes FREE", x -> x.fix(2, false));
        edges.changesNothing(Busy::make, "there and back", x -> x.fix(3, false) + x.fix(3, true));
    }

    private static void fixInAFullHouse() {
        check.part("16: the last of twelve, and one behind it");
        ColoursApart x = fullHouse();
        check.taken("fix(11, true)", x, x.fix(11, true), 0);
        check.due("of(11, 1)", x.of(11, 1), 1);
        check.refused("fix(12, true)", x, x.fix(12, true), -2);
    }

    private static void nameRefused() {
        check.part("17: -1 the box has it not, no NAME 0 .. 7; -2");
        edges.range("name(1, ..)", -1, 7, -1, (x, name) -> x.name(1, name));
        edges.range("name(.., NONE)", 0, 4, -2, (x, i) -> x.name(i, -1));
        edges.range("name(.., 3)", 0, 4, -2, (x, i) -> x.name(i, 3));
        edges.refused("name(1, 2)", -1, x -> x.name(1, 2));
        edges.refused("name(2, 5): it has a NAME", -1, x -> x.name(2, 5));
        edges.refused("name(0, 7): FIXED", -1, x -> x.name(0, 7));
        edges.refusedOf(ColoursApart::new, "name(0, 0) of an empty HOUSE", -2, x -> x.name(0, 0));
        check.part("17: -1 goes ahead of -2");
        edges.refused("name(5, 8)", -1, x -> x.name(5, 8));
        edges.refused("name(-1, -2)", -1, x -> x.name(-1, -2));
        edges.refusedOf(ColoursApart::new, "name(0, 8) of an empty HOUSE", -1, x -> x.name(0, 8));
    }

    private static ColoursApart nameless(int colour) {
        ColoursApart x = boxed();
        x.name(4, -1);
        x.set(4, colour);
        return x;
    }

    private static void nameInBox() {
        check.part("17: -1 the box has it not");
        for (int channel : CHANNELS) {
            for (int inside : new int[] {0x203040, 0x203040 + channel, 0x708090, 0x708090 - channel}) {
                ColoursApart x = nameless(inside);
                check.taken("name(4, 6)", x, x.name(4, 6), 0);
                check.due("of(4, 2)", x.of(4, 2), 6);
            }
            for (int outside : new int[] {0x203040 - channel, 0x708090 + channel}) {
                edges.refusedOf(() -> nameless(outside), "name(4, 6)", -1, x -> x.name(4, 6));
            }
        }
    }

    private static void nameIsKept() {
        check.part("17: NAME of it (NONE: without)");
        ColoursApart x = Busy.make();
        check.taken("NONE for one without", x, x.name(1, -1), 0);
        check.due("of(1, 2)", x.of(1, 2), -1);
        check.taken("NONE for one with", x, x.name(2, -1), 0);
        check.due("of(2, 2)", x.of(2, 2), -1);
        check.taken("its NAME again", x, x.name(2, 2), 0);
        check.taken("the same NAME again", x, x.name(2, 2), 0);
        check.due("of(2, 2)", x.of(2, 2), 2);
        check.taken("a FIXED one", x, x.name(3, -1), 0);
        check.due("of(3, 2)", x.of(3, 2), -1);
        check.taken("two of one NAME", x, x.name(3, 3), 0);
        check.taken("two of one NAME", x, x.name(2, 3), 0);
        check.due("of(3, 2)", x.of(3, 2), 3);
        check.due("of(2, 2)", x.of(2, 2), 3);
    }

    private static void eachName() {
        check.part("II: NAMES 0 .. 7, each a box");
        ColoursApart x = new ColoursApart();
        x.add(0, false);
        for (int name = 0; name < 8; name++) {
            check.taken("box", x, x.box(name, name, name), 0);
        }
        for (int name = 0; name < 8; name++) {
            x.name(0, -1);
            x.set(0, name);
            for (int other = 0; other < 8; other++) {
                check.due("colour " + name + " as NAME " + other, x.name(0, other), name == other ? 0 : -1);
            }
            check.due("of(0, 2)", x.of(0, 2), name);
        }
    }

    private static void boxRefused() {
        check.part("18: -1");
        edges.range("box(.., 0x404040, WHITE)", 0, 7, -1, (x, name) -> x.box(name, 0x404040, WHITE));
        edges.range("box(.., 0, WHITE)", 0, 7, -1, (x, name) -> x.box(name, 0, WHITE));
        edges.range("box(0, .., WHITE)", 0, WHITE, -1, (x, from) -> x.box(0, from, WHITE));
        edges.range("box(0, 0, ..)", 0, WHITE, -1, (x, to) -> x.box(0, 0, to));
        edges.refused("box(8, -1, -1)", -1, x -> x.box(8, -1, -1));
    }

    private static void boxFromAboveTo() {
        check.part("18: -1 (from above to)");
        for (int channel : CHANNELS) {
            ColoursApart x = Busy.make();
            check.taken("from is to", x, x.box(1, 0x404040, 0x404040), 0);
            check.taken("from below to", x, x.box(1, 0x404040 - channel, 0x404040), 0);
            edges.refused("from above to", -1, y -> y.box(1, 0x404040 + channel, 0x404040));
            int rest = WHITE - 255 * channel;
            edges.refused("one alone is above", -1, y -> y.box(1, channel, rest));
            check.taken("none is above", x, x.box(1, channel, rest + channel), 0);
        }
        ColoursApart x = Busy.make();
        check.taken("the greatest box", x, x.box(1, 0, WHITE), 0);
        check.taken("box(1, WHITE, WHITE)", x, x.box(1, WHITE, WHITE), 0);
        check.taken("box(1, 0, 0)", x, x.box(1, 0, 0), 0);
    }

    private static void boxWouldLeaveOut() {
        check.part("18: -1 (COLOURS of the HOUSE with that NAME would be outside)");
        for (int channel : CHANNELS) {
            ColoursApart x = Busy.make();
            check.taken("at from", x, x.box(2, 0x404040, WHITE), 0);
            check.taken("at to", x, x.box(2, 0, 0x404040), 0);
            edges.refused("just below from", -1, y -> y.box(2, 0x404040 + channel, WHITE));
            edges.refused("just above to", -1, y -> y.box(2, 0, 0x404040 - channel));
            edges.refused("a FIXED one, below from", -1, y -> y.box(5, 0x808080 + channel, WHITE));
            edges.refused("a FIXED one, above to", -1, y -> y.box(5, 0, 0x808080 - channel));
        }
        ColoursApart x = fullHouse();
        x.name(11, 3);
        check.refused("the last of twelve", x, x.box(3, 0, x.of(11, 0) - 1), -1);
        check.taken("the last of twelve", x, x.box(3, x.of(11, 0), x.of(11, 0)), 0);
        x.name(0, 6);
        check.refused("the first of twelve", x, x.box(6, 1, WHITE), -1);
        check.taken("the first of twelve", x, x.box(6, 0, 0), 0);
    }

    private static void boxOfOthers() {
        check.part("18: COLOURS with other NAMES, or without, may be outside");
        ColoursApart x = Busy.make();
        check.taken("a NAME that none has", x, x.box(0, 1, 1), 0);
        x.name(2, -1);
        check.taken("a NAME that one had", x, x.box(2, 1, 1), 0);
        x.name(3, 3);
        check.taken("a NAME that one had", x, x.box(5, 1, 1), 0);
        check.refused("a NAME that one has now", x, x.box(3, 1, 1), -1);
    }

    private static void pairRefused() {
        check.part("19: -1 (the same one; c); -2");
        edges.range("pair(1, 2, ..)", 10, 210, -1, (x, c) -> x.pair(1, 2, c));
        edges.range("pair(3, 4, ..)", 10, 210, -1, (x, c) -> x.pair(3, 4, c));
        edges.range("pair(.., 2, 50)", 0, 4, -2, (x, i) -> x.pair(i, 2, 50));
        edges.range("pair(2, .., 50)", 0, 4, -2, (x, k) -> x.pair(2, k, 50));
        for (int i = 0; i < 5; i++) {
            int one = i;
            edges.refused("the same one", -1, x -> x.pair(one, one, 50));
        }
        edges.refused("pair(4, 5, 50)", -2, x -> x.pair(4, 5, 50));
        edges.refused("pair(5, 6, 50)", -2, x -> x.pair(5, 6, 50));
        edges.refused("pair(-1, 5, 50)", -2, x -> x.pair(-1, 5, 50));
        edges.refusedOf(ColoursApart::new, "an empty HOUSE", -2, x -> x.pair(0, 1, 50));
    }

    private static void pairOrder() {
        check.part("19: -1 goes ahead of -2, -2 ahead of -5");
        edges.refused("pair(5, 5, 50)", -1, x -> x.pair(5, 5, 50));
        edges.refused("pair(-1, -1, 50)", -1, x -> x.pair(-1, -1, 50));
        edges.refused("pair(5, 1, 9)", -1, x -> x.pair(5, 1, 9));
        edges.refused("pair(1, -1, 211)", -1, x -> x.pair(1, -1, 211));
        edges.refusedOf(EdgesOfHouseTest::fullPairs, "pair(1, 12, 50)", -2, x -> x.pair(1, 12, 50));
        edges.refusedOf(EdgesOfHouseTest::fullPairs, "pair(-1, 1, 50)", -2, x -> x.pair(-1, 1, 50));
        edges.refusedOf(EdgesOfHouseTest::fullPairs, "pair(1, 1, 50)", -1, x -> x.pair(1, 1, 50));
        edges.refusedOf(EdgesOfHouseTest::fullPairs, "pair(1, 4, 9)", -1, x -> x.pair(1, 4, 9));
        edges.refusedOf(EdgesOfHouseTest::fullPairs, "pair(1, 4, 211)", -1, x -> x.pair(1, 4, 211));
    }

    private static void pairToldAgain() {
        check.part("II: of a PAIR that is told again the c is changed");
        ColoursApart x = new ColoursApart();
        x.add(0, false);
        x.add(0x0D0D0D, false);
        x.add(WHITE, false);
        check.taken("how many PAIRS there are", x, x.pair(0, 1, 20), 1);
        check.taken("how many PAIRS there are", x, x.pair(2, 0, 20), 2);
        check.due("2 is not below 2", x.unmet(), -1);
        check.taken("the c is changed", x, x.pair(0, 1, 21), 2);
        check.due("2 is below 2.1", x.unmet(), 0);
        check.taken("the other way round", x, x.pair(1, 0, 20), 2);
        check.due("it is one PAIR still", x.unmet(), -1);
        check.taken("the second", x, x.pair(0, 2, 207), 2);
        check.due("it is the second still", x.unmet(), 1);
        check.taken("told twice alike", x, x.pair(0, 2, 207), 2);
        check.due("count(2)", x.count(2), 2);
    }

    private static void pairsFull() {
        check.part("19: how many PAIRS there are; II: 20 at most; -5");
        ColoursApart x = new ColoursApart();
        for (int i = 0; i < 12; i++) {
            x.add(i * 0x010101, false);
        }
        for (int p = 0; p < 20; p++) {
            check.due("count(2)", x.count(2), p);
            check.taken("pair", x, x.pair(p % 10, p < 10 ? 10 : 11, 10), p + 1);
        }
        check.refused("the twenty-first", x, x.pair(10, 11, 10), -5);
        check.refused("the twenty-first", x, x.pair(0, 1, 10), -5);
        check.due("count(2)", x.count(2), 20);
        check.taken("the last told again needs no room", x, x.pair(11, 9, 20), 20);
        check.due("24 / 22 is below 2", x.unmet(), 19);
        check.taken("the first told again needs no room", x, x.pair(10, 0, 20), 20);
        check.due("23 / 13 is below 2", x.unmet(), 0);
        check.part("19: -5 changes nothing");
        edges.refusedOf(EdgesOfHouseTest::fullPairs, "a PAIR more", -5, y -> y.pair(1, 4, 10));
        edges.refusedOf(EdgesOfHouseTest::fullPairs, "a PAIR more", -5, y -> y.pair(4, 1, 210));
    }

    private static void contrastRefused() {
        check.part("20: its upper (what 0), lower (1) number; NONE");
        edges.askedRange("contrast(5, 6, ..)", 0, 1, -1, (x, what) -> x.contrast(5, 6, what));
        for (int what = 0; what < 2; what++) {
            int one = what;
            edges.askedRange("contrast(.., 6, " + what + ")", 0, WHITE, -1, (x, a) -> x.contrast(a, 6, one));
            edges.askedRange("contrast(6, .., " + what + ")", 0, WHITE, -1, (x, b) -> x.contrast(6, b, one));
        }
        edges.asked("contrast(-1, -1, 2)", -1, x -> x.contrast(-1, -1, 2));
    }

    private static void dueFraction(int lightA, int lightB, int upper, int lower) {
        ColoursApart x = new ColoursApart();
        int a = lightA * 0x010101;
        int b = lightB * 0x010101;
        check.due("upper of " + lightA + ", " + lightB, x.contrast(a, b, 0), upper);
        check.due("lower of " + lightA + ", " + lightB, x.contrast(a, b, 1), lower);
        check.due("upper of " + lightB + ", " + lightA, x.contrast(b, a, 0), upper);
        check.due("lower of " + lightB + ", " + lightA, x.contrast(b, a, 1), lower);
    }

    private static void contrastLowestTerms() {
        check.part("20: a fraction in lowest terms");
        dueFraction(0, 0, 1, 1);
        dueFraction(255, 255, 1, 1);
        dueFraction(100, 100, 1, 1);
        dueFraction(0, 1, 14, 13);
        dueFraction(254, 255, 268, 267);
        dueFraction(0, 255, 268, 13);
        dueFraction(121, 255, 2, 1);
        dueFraction(120, 255, 268, 133);
        dueFraction(122, 255, 268, 135);
        dueFraction(54, 255, 4, 1);
        dueFraction(188, 255, 4, 3);
        dueFraction(0, 12, 25, 13);
        dueFraction(0, 13, 2, 1);
        dueFraction(0, 14, 27, 13);
        dueFraction(131, 220, 233, 144);
        dueFraction(0, 247, 20, 1);
    }

    private static void contrastInPlain() {
        check.part("20: CONTRAST .. in PLAIN, of any two COLOURS");
        ColoursApart x = Busy.make();
        check.due("upper", x.contrast(0x797979, WHITE, 0), 2);
        check.due("lower", x.contrast(0x797979, WHITE, 1), 1);
        check.due("LIGHT 76 and 29: upper", x.contrast(0xFF0000, 0x0000FF, 0), 89);
        check.due("LIGHT 76 and 29: lower", x.contrast(0xFF0000, 0x0000FF, 1), 42);
        check.due("LIGHT is cut: 4999", x.contrast(0x0B000F, 0x040404, 0), 1);
        check.due("LIGHT is cut: 4999", x.contrast(0x0B000F, 0x050505, 0), 18);
    }

    private static void dueMet(int lightA, int lightB, int c, boolean met) {
        ColoursApart x = new ColoursApart();
        x.add(lightA * 0x010101, false);
        x.add(lightB * 0x010101, true);
        x.pair(0, 1, c);
        check.due("LIGHT " + lightA + ", " + lightB + " by " + c, x.unmet(), met ? -1 : 0);
        x.pair(1, 0, c);
        check.due("the other way round", x.unmet(), met ? -1 : 0);
    }

    private static void unmetAtItsEdge() {
        check.part("21, II: CONTRAST must not be below c / 10");
        dueMet(0, 12, 20, false);
        dueMet(0, 13, 20, true);
        dueMet(0, 14, 20, true);
        dueMet(13, 0, 19, true);
        dueMet(13, 0, 20, true);
        dueMet(13, 0, 21, false);
        dueMet(50, 50, 10, true);
        dueMet(50, 50, 11, false);
        dueMet(255, 255, 10, true);
        dueMet(0, 0, 10, true);
        dueMet(0, 0, 11, false);
        dueMet(0, 255, 206, true);
        dueMet(0, 255, 207, false);
        dueMet(0, 255, 210, false);
    }

    private static void unmetTenths() {
        check.part("21: c / 10 is not cut");
        dueMet(7, 17, 15, true);
        dueMet(7, 16, 15, false);
        dueMet(7, 9, 11, true);
        dueMet(7, 8, 11, false);
        dueMet(187, 207, 11, true);
        dueMet(187, 206, 11, false);
    }

    private static void unmetFirst() {
        check.part("21: the first PAIR (as they came); NONE");
        edges.askedOf(ColoursApart::new, "an empty HOUSE", -1, x -> x.unmet());
        edges.asked("the third", 2, x -> x.unmet());
        ColoursApart x = new ColoursApart();
        for (int i = 0; i < 12; i++) {
            x.add(0, false);
        }
        check.due("no PAIRS", x.unmet(), -1);
        for (int p = 0; p < 20; p++) {
            x.pair(11 - p % 10, p / 10, 10);
        }
        check.due("all are met", x.unmet(), -1);
        for (int p = 19; p >= 0; p--) {
            x.pair(11 - p % 10, p / 10, 11);
            check.due("PAIR " + p + " and later ones are not met", x.unmet(), p);
        }
        x.pair(11, 0, 10);
        check.due("the first is met", x.unmet(), 1);
    }

    private static void of() {
        check.part("22: -2 without; -1 another what");
        for (int what = 0; what < 4; what++) {
            int one = what;
            for (int i : new int[] {-1, 5, 12, MIN, MAX}) {
                edges.asked("of(" + i + ", " + what + ")", -2, x -> x.of(i, one));
            }
            edges.askedOf(ColoursApart::new, "an empty HOUSE", -2, x -> x.of(0, one));
        }
        for (int i = 0; i < 5; i++) {
            int one = i;
            for (int what : new int[] {-1, 4, MIN, MAX}) {
                edges.asked("of(" + i + ", " + what + ")", -1, x -> x.of(one, what));
            }
        }
        check.part("22: -2 is told ahead of -1");
        edges.asked("of(5, 4)", -2, x -> x.of(5, 4));
        edges.asked("of(-1, -1)", -2, x -> x.of(-1, -1));
        check.part("22: COLOUR i (what 0), FIXED (1), its NAME (2; NONE)");
        edges.asked("of(4, 0)", 0x0000FF, x -> x.of(4, 0));
        edges.asked("of(0, 0)", 0, x -> x.of(0, 0));
        edges.asked("of(0, 1)", 1, x -> x.of(0, 1));
        edges.asked("of(4, 1)", 0, x -> x.of(4, 1));
        edges.asked("of(3, 2)", 5, x -> x.of(3, 2));
        edges.asked("of(4, 2)", -1, x -> x.of(4, 2));
        ColoursApart x = fullHouse();
        check.due("the last of twelve", x.of(11, 0), 11 * 0x050607);
        check.due("one behind it", x.of(12, 0), -2);
    }

    private static void ofLeastApart() {
        check.part("22: the least APART of it from another one (3; NONE alone)");
        ColoursApart x = new ColoursApart();
        x.add(0, false);
        check.due("alone", x.of(0, 3), -1);
        x.add(WHITE, true);
        check.due("two", x.of(0, 3), 195075);
        check.due("two", x.of(1, 3), 195075);
        x.weights(10, 10, 10);
        check.due("as far as can be", x.of(0, 3), 1950750);
        x.add(0, true);
        check.due("the same COLOUR", x.of(0, 3), 0);
        check.due("the same COLOUR", x.of(2, 3), 0);
        check.due("the least of two", x.of(1, 3), 1950750);
        x.add(0xFFFFFE, false);
        check.due("the least is the last", x.of(1, 3), 10);
        x.sights(1 + 32);
        check.due("in PRINT they are alike", x.of(1, 3), 0);
    }
}
