/** Promises 14 to 22: colours of the house, names, boxes, pairs. */
public final class HouseTest {
    private static final int MIN = Integer.MIN_VALUE;
    private static final int MAX = Integer.MAX_VALUE;
    private static final int WHITE = 0xFFFFFF;
    private static final Check check = new Check();

    public static void main(String[] args) {
        add();
        set();
        fix();
        name();
        box();
        pair();
        pairsFull();
        contrast();
        unmet();
        of();
        check.end("HouseTest");
    }

    private static void add() {
        check.part("promise 14");
        ColoursApart x = new ColoursApart();
        check.refused("add(-1, false)", x, x.add(-1, false), -1);
        check.refused("add(WHITE + 1, true)", x, x.add(WHITE + 1, true), -1);
        check.refused("add(MIN, true)", x, x.add(MIN, true), -1);
        check.due("count(0)", x.count(0), 0);
        for (int i = 0; i < 12; i++) {
            check.taken("add", x, x.add(i * 1000, i % 3 == 0), i);
            check.due("its colour", x.of(i, 0), i * 1000);
            check.due("FIXED", x.of(i, 1), i % 3 == 0 ? 1 : 0);
            check.due("without a NAME", x.of(i, 2), -1);
        }
        check.refused("a thirteenth", x, x.add(5, false), -5);
        check.refused("-1 goes first", x, x.add(-5, false), -1);
        check.due("count(0)", x.count(0), 12);
        check.due("count(1)", x.count(1), 4);
    }

    private static void set() {
        check.part("promise 15");
        ColoursApart x = new ColoursApart();
        check.refused("set(0, 5) of none", x, x.set(0, 5), -2);
        check.refused("set(0, -1): -1 goes first", x, x.set(0, -1), -1);
        x.add(10, false);
        x.add(20, true);
        check.taken("set(0, WHITE)", x, x.set(0, WHITE), 10);
        check.taken("set(0, 0)", x, x.set(0, 0), WHITE);
        check.due("of(0, 0)", x.of(0, 0), 0);
        check.refused("set(0, WHITE + 1)", x, x.set(0, WHITE + 1), -1);
        check.refused("set(-1, 5)", x, x.set(-1, 5), -2);
        check.refused("set(2, 5)", x, x.set(2, 5), -2);
        check.refused("set(MAX, 5)", x, x.set(MAX, 5), -2);
        check.refused("set(1, 5): FIXED", x, x.set(1, 5), -6);
        check.refused("set(1, -5): -1 goes before -6", x, x.set(1, -5), -1);
        check.due("it never moves", x.of(1, 0), 20);
        x.name(0, 3);
        x.name(1, 3);
        x.box(3, 0, 0x0000FF);
        check.taken("set(0, 0xFF): in the box", x, x.set(0, 0xFF), 0);
        check.refused("set(0, 0x100): not in it", x, x.set(0, 0x100), -1);
        check.refused("set(1, 0x100): the box goes before -6", x, x.set(1, 0x100), -1);
        check.refused("set(1, 0x0F): in the box, but FIXED", x, x.set(1, 0x0F), -6);
        check.due("of(0, 0)", x.of(0, 0), 0xFF);
        x.fix(1, false);
        check.taken("set(1, 0x0F): FREE", x, x.set(1, 0x0F), 20);
    }

    private static void fix() {
        check.part("promise 16");
        ColoursApart x = new ColoursApart();
        check.refused("fix(0, true) of none", x, x.fix(0, true), -2);
        x.add(10, false);
        check.refused("fix(-1, true)", x, x.fix(-1, true), -2);
        check.refused("fix(1, true)", x, x.fix(1, true), -2);
        check.refused("fix(12, true)", x, x.fix(12, true), -2);
        check.taken("fix(0, true)", x, x.fix(0, true), 0);
        check.taken("fix(0, true) again", x, x.fix(0, true), 0);
        check.due("of(0, 1)", x.of(0, 1), 1);
        check.due("count(1)", x.count(1), 1);
        check.taken("fix(0, false)", x, x.fix(0, false), 0);
        check.due("of(0, 1)", x.of(0, 1), 0);
        check.due("count(1)", x.count(1), 0);
        check.taken("set(0, 5)", x, x.set(0, 5), 10);
    }

    private static void name() {
        check.part("promise 17");
        ColoursApart x = new ColoursApart();
        check.refused("name(0, 0) of none", x, x.name(0, 0), -2);
        check.refused("name(0, NONE) of none", x, x.name(0, -1), -2);
        check.refused("name(0, 8): -1 goes first", x, x.name(0, 8), -1);
        x.add(0x102030, true);
        check.refused("name(0, -2)", x, x.name(0, -2), -1);
        check.refused("name(0, MIN)", x, x.name(0, MIN), -1);
        check.refused("name(-1, 0)", x, x.name(-1, 0), -2);
        check.taken("name(0, 7): FIXED ones too", x, x.name(0, 7), 0);
        check.due("of(0, 2)", x.of(0, 2), 7);
        check.taken("name(0, 0)", x, x.name(0, 0), 0);
        check.due("of(0, 2)", x.of(0, 2), 0);
        x.box(1, 0x112030, WHITE);
        check.refused("red below the box", x, x.name(0, 1), -1);
        x.box(1, 0x102130, WHITE);
        check.refused("green below the box", x, x.name(0, 1), -1);
        x.box(1, 0x102031, WHITE);
        check.refused("blue below the box", x, x.name(0, 1), -1);
        x.box(1, 0, 0x0FFFFF);
        check.refused("red above the box", x, x.name(0, 1), -1);
        x.box(1, 0, 0xFF1FFF);
        check.refused("green above the box", x, x.name(0, 1), -1);
        x.box(1, 0, 0xFFFF2F);
        check.refused("blue above the box", x, x.name(0, 1), -1);
        check.due("of(0, 2)", x.of(0, 2), 0);
        x.box(1, 0x102030, 0x102030);
        check.taken("a box of one colour", x, x.name(0, 1), 0);
        check.taken("name(0, NONE)", x, x.name(0, -1), 0);
        check.due("of(0, 2)", x.of(0, 2), -1);
    }

    private static void box() {
        check.part("promise 18");
        ColoursApart x = new ColoursApart();
        check.refused("box(-1, 0, 5)", x, x.box(-1, 0, 5), -1);
        check.refused("box(8, 0, 5)", x, x.box(8, 0, 5), -1);
        check.refused("box(0, -1, 5)", x, x.box(0, -1, 5), -1);
        check.refused("box(0, 0, WHITE + 1)", x, x.box(0, 0, WHITE + 1), -1);
        check.refused("red from above to", x, x.box(0, 0x020000, 0x01FFFF), -1);
        check.refused("green from above to", x, x.box(0, 0x000200, 0xFF01FF), -1);
        check.refused("blue from above to", x, x.box(0, 0x000002, 0xFFFF01), -1);
        x.add(0x404040, false);
        x.add(0x808080, true);
        x.name(0, 4);
        check.taken("a name that the other one has not", x, x.box(4, 0x404040, 0x404040), 0);
        x.box(4, 0, WHITE);
        x.name(1, 4);
        check.refused("the first would be outside", x, x.box(4, 0x404140, WHITE), -1);
        check.refused("the second would be outside", x, x.box(4, 0, 0x80807F), -1);
        check.taken("the box as it was before", x, x.set(0, 0), 0x404040);
        check.taken("both are in it", x, x.box(4, 0, 0x808080), 0);
        check.refused("set(0, WHITE)", x, x.set(0, WHITE), -1);
        check.taken("another name's box", x, x.box(5, 0xFF0000, 0xFF0000), 0);
        check.taken("set(0, 0x808080)", x, x.set(0, 0x808080), 0);
    }

    private static void pair() {
        check.part("promise 19");
        ColoursApart x = new ColoursApart();
        check.refused("pair(0, 0, 20): -1 goes first", x, x.pair(0, 0, 20), -1);
        check.refused("pair(0, 1, 9): -1 goes first", x, x.pair(0, 1, 9), -1);
        check.refused("pair(0, 1, 20) of none", x, x.pair(0, 1, 20), -2);
        x.add(0, false);
        x.add(WHITE, false);
        x.add(0x808080, true);
        check.refused("pair(0, 1, 211)", x, x.pair(0, 1, 211), -1);
        check.refused("pair(0, 1, MIN)", x, x.pair(0, 1, MIN), -1);
        check.refused("pair(0, 3, 20)", x, x.pair(0, 3, 20), -2);
        check.refused("pair(3, 0, 20)", x, x.pair(3, 0, 20), -2);
        check.refused("pair(-1, 0, 20)", x, x.pair(-1, 0, 20), -2);
        check.due("count(2)", x.count(2), 0);
        check.taken("pair(0, 1, 10)", x, x.pair(0, 1, 10), 1);
        check.taken("pair(2, 1, 210)", x, x.pair(2, 1, 210), 2);
        check.due("unmet()", x.unmet(), 1);
        check.taken("told again, the other way", x, x.pair(1, 2, 10), 2);
        check.due("unmet()", x.unmet(), -1);
        check.taken("told again", x, x.pair(0, 1, 210), 2);
        check.due("unmet()", x.unmet(), 0);
        check.due("count(2)", x.count(2), 2);
    }

    private static void pairsFull() {
        check.part("promise 19: no room");
        ColoursApart x = new ColoursApart();
        for (int i = 0; i < 8; i++) {
            x.add(i, false);
        }
        int told = 0;
        for (int i = 0; i < 8 && told < 20; i++) {
            for (int k = i + 1; k < 8 && told < 20; k++) {
                told++;
                check.taken("pair", x, x.pair(i, k, 10), told);
            }
        }
        check.due("all are met", x.unmet(), -1);
        check.taken("with all its pairs it stays", x, x.move(0, 1), 0);
        check.refused("a pair more", x, x.pair(6, 7, 10), -5);
        check.refused("-2 goes before -5", x, x.pair(6, 8, 10), -2);
        check.refused("-1 goes before -5", x, x.pair(6, 7, 9), -1);
        check.taken("one of the twenty", x, x.pair(1, 0, 20), 20);
        check.due("count(2)", x.count(2), 20);
        check.due("unmet()", x.unmet(), 0);
    }

    private static void contrast() {
        check.part("promise 20");
        ColoursApart x = new ColoursApart();
        check.due("upper", x.contrast(0, WHITE, 0), 268);
        check.due("lower", x.contrast(0, WHITE, 1), 13);
        check.due("upper, the other way", x.contrast(WHITE, 0, 0), 268);
        check.due("lower, the other way", x.contrast(WHITE, 0, 1), 13);
        check.due("26 / 13: upper", x.contrast(0x0D0D0D, 0, 0), 2);
        check.due("26 / 13: lower", x.contrast(0x0D0D0D, 0, 1), 1);
        check.due("30 / 20: upper", x.contrast(0x070707, 0x111111, 0), 3);
        check.due("30 / 20: lower", x.contrast(0x070707, 0x111111, 1), 2);
        check.due("alike: upper", x.contrast(0xFF0000, 0xFF0000, 0), 1);
        check.due("alike: lower", x.contrast(0xFF0000, 0xFF0000, 1), 1);
        check.due("another what", x.contrast(0, 0, 2), -1);
        check.due("what below 0", x.contrast(0, 0, -1), -1);
        check.due("contrast(-1, 0, 0)", x.contrast(-1, 0, 0), -1);
        check.due("contrast(0, -1, 0)", x.contrast(0, -1, 0), -1);
        check.due("contrast(0, WHITE + 1, 1)", x.contrast(0, WHITE + 1, 1), -1);
        check.due("contrast(MAX, 0, 1)", x.contrast(MAX, 0, 1), -1);
        x.sights(16);
        x.weights(0, 0, 0);
        check.due("in PLAIN, without WEIGHTS", x.contrast(0, WHITE, 0), 268);
    }

    private static void unmet() {
        check.part("promise 21");
        ColoursApart x = new ColoursApart();
        x.add(0, false);
        x.add(0x0D0D0D, false);
        x.add(WHITE, false);
        x.pair(2, 1, 103);
        x.pair(1, 0, 20);
        check.due("268 / 26 is 10.3 and more, 26 / 13 is 2", x.unmet(), -1);
        x.pair(0, 1, 21);
        check.due("2 is below 2.1", x.unmet(), 1);
        x.pair(1, 2, 104);
        check.due("of two the first that came", x.unmet(), 0);
        x.set(1, 0);
        check.due("268 / 13 is 20.6", x.unmet(), 1);
        x.pair(1, 2, 206);
        x.pair(1, 0, 10);
        check.due("20.6 is met", x.unmet(), -1);
        x.pair(1, 2, 207);
        check.due("20.7 is not", x.unmet(), 0);
        check.due("status() is of pair", x.status(), 0);
    }

    private static void of() {
        check.part("promise 22");
        ColoursApart x = new ColoursApart();
        check.due("of(0, 0) of none", x.of(0, 0), -2);
        x.add(0x0000FF, true);
        check.due("alone", x.of(0, 3), -1);
        check.due("of(0, 4)", x.of(0, 4), -1);
        check.due("of(0, -1)", x.of(0, -1), -1);
        check.due("of(1, 0)", x.of(1, 0), -2);
        check.due("of(-1, 0)", x.of(-1, 0), -2);
        check.due("of(MIN, 3)", x.of(MIN, 3), -2);
        check.due("of(1, 4): -2 is told first", x.of(1, 4), -2);
        x.add(0x0000F0, false);
        x.add(0x0000FE, false);
        check.due("of(0, 3)", x.of(0, 3), 1);
        check.due("of(1, 3)", x.of(1, 3), 14 * 14);
        check.due("of(2, 3)", x.of(2, 3), 1);
        x.sights(1 + 16);
        check.due("in GREY they are alike: 29 and 28", x.of(0, 3), 1);
        check.due("in GREY 27 and 28", x.of(1, 3), 3);
        x.add(0x0000FF, false);
        check.due("the same colour", x.of(0, 3), 0);
        x.name(1, 6);
        check.due("of(1, 0)", x.of(1, 0), 0xF0);
        check.due("of(1, 1)", x.of(1, 1), 0);
        check.due("of(0, 1)", x.of(0, 1), 1);
        check.due("of(1, 2)", x.of(1, 2), 6);
        x.add(-1, false);
        x.of(9, 9);
        check.due("status() is not of of", x.status(), -1);
    }
}
