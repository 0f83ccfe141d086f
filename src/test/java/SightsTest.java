/** Promises 1 to 13: sheets, sights, the grid, and what is seen of a colour. */
public final class SightsTest {
    private static final int MIN = Integer.MIN_VALUE;
    private static final int MAX = Integer.MAX_VALUE;
    private static final int WHITE = 0xFFFFFF;
    private static final Check check = new Check();

    public static void main(String[] args) {
        newObject();
        sheet();
        write();
        weakFromSheets();
        weakRefused();
        weakRounding();
        levels();
        printLevelsOfEachCount();
        weights();
        sights();
        grid();
        place();
        seen();
        light();
        distance();
        apart();
        check.end("SightsTest");
    }

    private static void fill(ColoursApart x, int s, int sort, int... numbers) {
        x.sheet(s, sort, numbers.length);
        for (int i = 0; i < numbers.length; i++) {
            x.write(s, i, numbers[i]);
        }
    }

    private static void newObject() {
        check.part("promise 1");
        ColoursApart x = new ColoursApart();
        check.due("NONE", ColoursApart.NONE, -1);
        check.due("count(0)", x.count(0), 0);
        check.due("count(1)", x.count(1), 0);
        check.due("count(2)", x.count(2), 0);
        check.due("count(3)", x.count(3), 0);
        check.due("count(4)", x.count(4), 27);
        check.due("status()", x.status(), 0);
        check.due("unmet()", x.unmet(), -1);
        check.due("chosen(0)", x.chosen(0), -1);
        check.due("stuck()", x.stuck(), 0);
        check.due("step(0)", x.step(0), -1);
        check.due("rising(0)", x.rising(0), -1);
        check.due("of(0, 0)", x.of(0, 0), -2);
        for (int k = 0; k < 3; k++) {
            check.refused("back", x, x.back(k), -6);
        }
        check.due("levels(3)", x.levels(3), 5);
        check.due("sights(2)", x.sights(2), 1);
        check.due("grid(4)", x.grid(4), 3);
        check.due("another object's grid", new ColoursApart().grid(2), 3);
    }

    private static void sheet() {
        check.part("promise 2");
        ColoursApart x = new ColoursApart();
        check.taken("sheet(0, 0, 0)", x, x.sheet(0, 0, 0), 0);
        check.due("count(3)", x.count(3), 1);
        check.taken("sheet(3, 2, 60)", x, x.sheet(3, 2, 60), 60);
        check.taken("sheet(1, 1, 7)", x, x.sheet(1, 1, 7), 7);
        check.due("count(3)", x.count(3), 3);
        check.refused("sheet(4, 0, 1)", x, x.sheet(4, 0, 1), -1);
        check.refused("sheet(-1, 0, 1)", x, x.sheet(-1, 0, 1), -1);
        check.refused("sheet(MIN, 0, 1)", x, x.sheet(MIN, 0, 1), -1);
        check.refused("sheet(0, 3, 1)", x, x.sheet(0, 3, 1), -1);
        check.refused("sheet(0, -1, 1)", x, x.sheet(0, -1, 1), -1);
        check.refused("sheet(0, 0, 61)", x, x.sheet(0, 0, 61), -1);
        check.refused("sheet(0, 0, MAX)", x, x.sheet(0, 0, MAX), -1);
        check.refused("sheet(0, 3, -1): -1 goes first", x, x.sheet(0, 3, -1), -1);
        check.refused("sheet(4, 0, -1): -1 goes first", x, x.sheet(4, 0, -1), -1);
        check.due("count(3): -1 takes none away", x.count(3), 3);
        check.refused("sheet(1, 0, -1)", x, x.sheet(1, 0, -1), -4);
        check.due("count(3): -4 takes it away", x.count(3), 2);
        check.refused("sheet(1, 0, MIN)", x, x.sheet(1, 0, MIN), -4);
        check.due("count(3)", x.count(3), 2);
        check.refused("write to what was taken away", x, x.write(1, 0, 1), -2);
        fill(x, 2, 2, 1000, 1000, 1000, 1000, 1000, 1000, 1000, 1000, 1000);
        x.sheet(2, 2, 9);
        check.taken("weak of a row that was made anew", x, x.weak(1, 2, 0), 0);
        check.due("all numbers are 0 again", x.seen(1, WHITE), 0);
    }

    private static void write() {
        check.part("promise 3");
        ColoursApart x = new ColoursApart();
        check.refused("write(-1, 0, 0)", x, x.write(-1, 0, 0), -1);
        check.refused("write(4, 0, 0)", x, x.write(4, 0, 0), -1);
        check.refused("write(0, 0, 0): missing", x, x.write(0, 0, 0), -2);
        check.refused("write(0, -1, 0): -2 goes before -3", x, x.write(0, -1, 0), -2);
        x.sheet(0, 0, 9);
        check.refused("write(0, -1, 0)", x, x.write(0, -1, 0), -3);
        check.refused("write(0, 9, 0)", x, x.write(0, 9, 0), -3);
        check.refused("write(0, MAX, 0)", x, x.write(0, MAX, 0), -3);
        check.taken("write(0, 8, 5)", x, x.write(0, 8, 5), 0);
        x.sheet(1, 0, 0);
        check.refused("write(1, 0, 0): an empty row", x, x.write(1, 0, 0), -3);
    }

    private static void weakFromSheets() {
        check.part("promises 3 and 4: sorts");
        ColoursApart x = new ColoursApart();
        int probe = 100 << 16;
        fill(x, 0, 0, -1, 256 + 7, 0, 0, 0, 0, 0, 0, 0);
        check.taken("a byte -1 is read as 255", x, x.weak(1, 0, 0), 0);
        check.due("255 thousandths of red 100", x.seen(1, probe), 26 << 16);
        check.due("7 thousandths of green 255", x.seen(1, 0x00FF00), 2 << 16);
        fill(x, 1, 1, 65536 + 1000, 0, 0, 0, 0, 0, 65535, 0, 0);
        check.taken("shorts have their lowest bits", x, x.weak(2, 1, 0), 0);
        check.due("1000 thousandths", x.seen(2, probe), probe);
        fill(x, 1, 1, 32768, 0, 0, 0, 0, 0, 0, 0, 0);
        check.refused("a short 32768 is -32768", x, x.weak(2, 1, 0), -1);
        fill(x, 1, 1, 65536 - 3000, 0, 0, 0, 0, 0, 0, 0, 3000);
        check.taken("a short 62536 is -3000", x, x.weak(2, 1, 0), 0);
        check.due("red is at least 0, blue at most 255", x.seen(2, 0xFF0080), 255);
        fill(x, 2, 2, 65536 + 1000, 0, 0, 0, 0, 0, 0, 0, 0);
        check.refused("an int keeps all", x, x.weak(3, 2, 0), -1);
        check.due("and the sight stays", x.seen(3, 0x123456), 0x123456);
        fill(x, 3, 2, 9, 0, 0, 1000, 0, 1000, 0, 1000);
        check.taken("weak(3, 3, 2)", x, x.weak(3, 3, 2), 0);
        check.due("numbers 0, 1000, 0, 1000, 0, 1000, then none", x.seen(3, 0x0A1420), 0x142A00);
        check.taken("weak(3, 3, 8): behind its end", x, x.weak(3, 3, 8), 0);
        check.due("all 0", x.seen(3, WHITE), 0);
        x.weak(3, 3, 2);
        check.taken("weak(3, 3, MAX)", x, x.weak(3, 3, MAX), 0);
        check.due("all 0 again", x.seen(3, WHITE), 0);
        x.sheet(0, 2, 0);
        x.weak(3, 3, 2);
        check.taken("weak of an empty row", x, x.weak(3, 0, 0), 0);
        check.due("all 0 once more", x.seen(3, WHITE), 0);
    }

    private static void weakRefused() {
        check.part("promise 4: refused");
        ColoursApart x = new ColoursApart();
        check.refused("weak(0, 0, 0)", x, x.weak(0, 0, 0), -1);
        check.refused("weak(4, 0, 0)", x, x.weak(4, 0, 0), -1);
        check.refused("weak(1, 4, 0)", x, x.weak(1, 4, 0), -1);
        check.refused("weak(1, -1, 0)", x, x.weak(1, -1, 0), -1);
        check.refused("weak(1, 0, -1): -1 goes first", x, x.weak(1, 0, -1), -1);
        check.refused("weak(1, 0, MIN)", x, x.weak(1, 0, MIN), -1);
        check.refused("weak(1, 0, 0)", x, x.weak(1, 0, 0), -2);
        fill(x, 0, 2, 3001, 3000, -3000, 0, 0, 0, 0, 0, 0, 0, -3001);
        check.refused("3001", x, x.weak(1, 0, 0), -1);
        check.taken("3000 and -3000", x, x.weak(1, 0, 1), 0);
        check.refused("-3001", x, x.weak(1, 0, 2), -1);
        check.due("of nine numbers the first is used", x.seen(1, 0x0A0000), 0x1E0000);
        check.due("the second too", x.seen(1, 0x0A0500), 0x0F0000);
        fill(x, 1, 2, MIN, 0, 0, 0, 0, 0, 0, 0, 0);
        check.refused("MIN", x, x.weak(1, 1, 0), -1);
    }

    private static void weakRounding() {
        check.part("term I: numbers of WEAK");
        ColoursApart x = new ColoursApart();
        fill(x, 0, 2, 499, 1, 0, 500, 0, 0, 3000, 3000, 3000);
        x.weak(1, 0, 0);
        check.due("499 is 0, 500 is 1", x.seen(1, 0x010000), 0x000103);
        check.due("499 and 1 are 1", x.seen(1, 0x010100), 0x010106);
        check.due("at most 255", x.seen(1, WHITE), 0x8080FF);
        fill(x, 0, 2, 100, 0, 0, 999, 0, 0, 1001, 0, 0);
        x.weak(1, 0, 0);
        check.due("24499, 244755, 245245", x.seen(1, 0xF50000), 0x19F5F5);
        check.due("24400, 243756, 244244", x.seen(1, 0xF40000), 0x18F4F4);
        fill(x, 0, 2, -499, 0, 0, -500, 0, 0, -501, 0, 1000);
        x.weak(2, 0, 0);
        check.due("at least 0", x.seen(2, 0xFF0000), 0);
        check.due("1000 blue less 501 red", x.seen(2, 0x030004), 0x000002);
        check.due("the others stay as PLAIN", x.seen(3, 0x030004), 0x030004);
    }

    private static void levels() {
        check.part("promise 5");
        ColoursApart x = new ColoursApart();
        check.refused("levels(1)", x, x.levels(1), -1);
        check.refused("levels(17)", x, x.levels(17), -1);
        check.refused("levels(MIN)", x, x.levels(MIN), -1);
        check.due("five at first: 0 64 128 191 255", x.seen(5, 0x00003F), 0x000040);
        check.due("of two the lower: 32", x.seen(5, 0x202021), 0x000040);
        check.due("128 and 191", x.seen(5, 0x9FA0A1), 0x80BFBF);
        check.taken("levels(2)", x, x.levels(2), 5);
        check.due("127 and 128", x.seen(5, 0x7F80FF), 0x00FFFF);
        check.taken("levels(16)", x, x.levels(16), 2);
        check.due("every 17", x.seen(5, 0x191A11), 0x111A11 + 0x000800);
        check.taken("levels(3)", x, x.levels(3), 16);
        check.due("0 128 255", x.seen(5, 0x4041BF), 0x008080);
        check.due("192 goes up", x.seen(5, 0x0000C0), 0x0000FF);
        check.taken("levels(3)", x, x.levels(3), 3);
    }

    private static int nearestLevel(int number, int n) {
        int found = 0;
        int least = 1000;
        for (int i = 0; i < n; i++) {
            int level = (i * 255 + (n - 1) / 2) / (n - 1);
            if (Math.abs(number - level) < least) {
                least = Math.abs(number - level);
                found = level;
            }
        }
        return found;
    }

    private static void printLevelsOfEachCount() {
        check.part("term I: nearest of LEVELS");
        for (int n = 2; n <= 16; n++) {
            ColoursApart x = new ColoursApart();
            x.levels(n);
            for (int number = 0; number < 256; number++) {
                int other = 255 - number;
                int due = nearestLevel(number, n) * 65536 + nearestLevel(other, n) * 256 + nearestLevel(number, n);
                check.due(n + " levels, " + number, x.seen(5, number * 65536 + other * 256 + number), due);
            }
        }
    }

    private static void weights() {
        check.part("promise 6");
        ColoursApart x = new ColoursApart();
        check.taken("weights(0, 10, 3)", x, x.weights(0, 10, 3), 0);
        check.due("distance", x.distance(0, 0x050201, 0), 43);
        check.refused("weights(-1, 0, 0)", x, x.weights(-1, 0, 0), -1);
        check.refused("weights(0, -1, 0)", x, x.weights(0, -1, 0), -1);
        check.refused("weights(0, 0, -1)", x, x.weights(0, 0, -1), -1);
        check.refused("weights(11, 0, 0)", x, x.weights(11, 0, 0), -1);
        check.refused("weights(0, 11, 0)", x, x.weights(0, 11, 0), -1);
        check.refused("weights(0, 0, 11)", x, x.weights(0, 0, 11), -1);
        check.due("distance as before", x.distance(0, 0x050201, 0), 43);
        check.taken("weights(10, 10, 10)", x, x.weights(10, 10, 10), 0);
        check.due("the greatest distance", x.distance(0, 0, WHITE), 1950750);
        check.taken("weights(0, 0, 0)", x, x.weights(0, 0, 0), 0);
        check.due("no distance", x.distance(0, 0, WHITE), 0);
        check.due("no light is weighed", x.light(WHITE), 255);
    }

    private static void sights() {
        check.part("promise 7");
        ColoursApart x = new ColoursApart();
        check.refused("sights(0)", x, x.sights(0), -1);
        check.refused("sights(64)", x, x.sights(64), -1);
        check.refused("sights(-1)", x, x.sights(-1), -1);
        check.taken("sights(63)", x, x.sights(63), 1);
        check.taken("sights(16)", x, x.sights(16), 63);
        check.due("GREY alone", x.apart(0xFF0000, 0), 3 * 76 * 76);
        check.taken("sights(32)", x, x.sights(32), 16);
        check.due("PRINT alone", x.apart(0x00000F, 0), 0);
        fill(x, 0, 2, 500);
        x.weak(2, 0, 0);
        check.taken("sights(4)", x, x.sights(4), 32);
        check.due("WEAK 2 alone", x.apart(0x0AFFFF, 0), 25);
        check.taken("sights(2)", x, x.sights(2), 4);
        check.due("WEAK 1 alone", x.apart(0x0A0000, 0), 100);
        check.taken("sights(8)", x, x.sights(8), 2);
        check.due("WEAK 3 alone", x.apart(0x0A0000, 0), 100);
    }

    private static void grid() {
        check.part("promise 8");
        ColoursApart x = new ColoursApart();
        check.refused("grid(1)", x, x.grid(1), -1);
        check.refused("grid(5)", x, x.grid(5), -1);
        check.refused("grid(MIN)", x, x.grid(MIN), -1);
        check.taken("grid(4)", x, x.grid(4), 3);
        check.due("count(4)", x.count(4), 64);
        check.taken("grid(2)", x, x.grid(2), 4);
        check.due("count(4)", x.count(4), 8);
        check.taken("grid(3)", x, x.grid(3), 2);
        check.due("count(4)", x.count(4), 27);
    }

    private static void place() {
        check.part("promise 9");
        ColoursApart x = new ColoursApart();
        check.due("place(0)", x.place(0), 0);
        check.due("place(5): 0 1 2", x.place(5), 0x007FFF);
        check.due("place(10): 1 0 1", x.place(10), 0x7F007F);
        check.due("place(21): 2 1 0", x.place(21), 0xFF7F00);
        check.due("place(26)", x.place(26), WHITE);
        check.due("place(27)", x.place(27), -1);
        check.due("place(-1)", x.place(-1), -1);
        check.due("place(MIN)", x.place(MIN), -1);
        x.grid(4);
        check.due("place(27): 1 2 3", x.place(27), 0x55AAFF);
        check.due("place(63)", x.place(63), WHITE);
        check.due("place(64)", x.place(64), -1);
        x.grid(2);
        check.due("place(6): 1 1 0", x.place(6), 0xFFFF00);
        check.due("place(8)", x.place(8), -1);
    }

    private static void seen() {
        check.part("promise 10");
        ColoursApart x = new ColoursApart();
        check.due("seen(-1, 0)", x.seen(-1, 0), -1);
        check.due("seen(6, 0)", x.seen(6, 0), -1);
        check.due("seen(MAX, 0)", x.seen(MAX, 0), -1);
        for (int sight = 0; sight < 6; sight++) {
            check.due("a colour below", x.seen(sight, -1), -1);
            check.due("a colour above", x.seen(sight, WHITE + 1), -1);
            check.due("black", x.seen(sight, 0), 0);
            check.due("white", x.seen(sight, WHITE), WHITE);
        }
        for (int sight = 0; sight < 4; sight++) {
            check.due("as PLAIN at first", x.seen(sight, 0x12AB34), 0x12AB34);
        }
        check.due("GREY", x.seen(4, 0x00FF00), 149 * 0x010101);
        check.due("status() is not touched", x.status(), 0);
    }

    private static void light() {
        check.part("promise 11");
        ColoursApart x = new ColoursApart();
        check.due("red", x.light(0xFF0000), 76);
        check.due("green", x.light(0x00FF00), 149);
        check.due("blue", x.light(0x0000FF), 29);
        check.due("white", x.light(WHITE), 255);
        check.due("black", x.light(0), 0);
        check.due("red 10 is 2990", x.light(0x0A0000), 2);
        check.due("red 11 is 3289", x.light(0x0B0000), 3);
        check.due("green 46 is 27002", x.light(0x002E00), 27);
        check.due("green 5 is 2935", x.light(0x000500), 2);
        check.due("blue 35 is 3990", x.light(0x000023), 3);
        check.due("cut", x.light(0x000008), 0);
        check.due("not cut", x.light(0x000009), 1);
        check.due("light(-1)", x.light(-1), -1);
        check.due("light(WHITE + 1)", x.light(WHITE + 1), -1);
        check.due("light(MIN)", x.light(MIN), -1);
    }

    private static void distance() {
        check.part("promise 12");
        ColoursApart x = new ColoursApart();
        check.due("distance(0, ..)", x.distance(0, 0x010203, 0x040201), 13);
        check.due("the other way", x.distance(0, 0x040201, 0x010203), 13);
        check.due("distance(4, ..)", x.distance(4, 0xFF0000, 0x00FF00), 3 * 73 * 73);
        check.due("distance(5, ..)", x.distance(5, 0x210000, 0x200000), 64 * 64);
        check.due("the same", x.distance(5, 0x210000, 0x210000), 0);
        check.due("distance(-1, 0, 0)", x.distance(-1, 0, 0), -1);
        check.due("distance(6, 0, 0)", x.distance(6, 0, 0), -1);
        check.due("distance(0, -1, 0)", x.distance(0, -1, 0), -1);
        check.due("distance(0, 0, -1)", x.distance(0, 0, -1), -1);
        check.due("distance(0, WHITE + 1, 0)", x.distance(0, WHITE + 1, 0), -1);
        check.due("distance(0, 0, WHITE + 1)", x.distance(0, 0, WHITE + 1), -1);
        fill(x, 0, 2, 0, 0, 0, 0, 500);
        x.weak(3, 0, 0);
        check.due("distance(3, ..)", x.distance(3, 0x00FF00, 0x112233), 111 * 111);
        x.weights(2, 3, 4);
        check.due("weighed in GREY", x.distance(4, 0, WHITE), 9 * 65025);
    }

    private static void apart() {
        check.part("promise 13");
        ColoursApart x = new ColoursApart();
        check.due("PLAIN alone", x.apart(0x210000, 0x200000), 1);
        x.sights(1 + 32);
        check.due("PLAIN is less", x.apart(0x210000, 0x200000), 1);
        check.due("PRINT is less", x.apart(0x210000, 0x3F0000), 0);
        x.sights(1 + 16 + 32);
        check.due("GREY is least", x.apart(0xFF0000, 0x00FF00), 3 * 73 * 73);
        fill(x, 0, 2, 0, 0, 0, 0, 100);
        x.weak(2, 0, 0);
        check.due("WEAK 2 does not count", x.apart(0xFF0000, 0x00FF00), 3 * 73 * 73);
        x.sights(1 + 4 + 16 + 32);
        check.due("WEAK 2 counts", x.apart(0xFF0000, 0x00FF00), 26 * 26);
        check.due("the other way", x.apart(0x00FF00, 0xFF0000), 26 * 26);
        check.due("apart(-1, 0)", x.apart(-1, 0), -1);
        check.due("apart(0, -1)", x.apart(0, -1), -1);
        check.due("apart(WHITE + 1, 0)", x.apart(WHITE + 1, 0), -1);
        check.due("apart(0, MAX)", x.apart(0, MAX), -1);
    }
}
