/** Boundaries that term I and promises 1 to 13 name; the part of each check quotes the sentence. */
public final class EdgesOfSightsTest {
    private static final int MIN = Integer.MIN_VALUE;
    private static final int MAX = Integer.MAX_VALUE;
    private static final int WHITE = 0xFFFFFF;
    private static final int BYTES = 0;
    private static final int SHORTS = 1;
    private static final int INTS = 2;
    private static final Check check = new Check();
    private static final Edges edges = new Edges(check);

    public static void main(String[] args) {
        newHouse();
        newSights();
        newLatest();
        sheetRanges();
        sheetOfNone();
        sheetOfSixty();
        sheetBelowNone();
        sheetIsAllZero();
        writeRefused();
        writeEnds();
        bytes();
        shorts();
        ints();
        weakRefused();
        weakNumbers();
        weakNineNumbers();
        weakPlaces();
        weakIsACopy();
        weakRowByRow();
        weakRounding();
        weakHeld();
        levels();
        levelsCut();
        nearestOfTwo();
        weights();
        sightsThatCount();
        grid();
        places();
        colours();
        sightNumbers();
        lightCut();
        greyIsLight();
        greatestDistance();
        leastOverSights();
        check.end("EdgesOfSightsTest");
    }

    private static void newHouse() {
        check.part("1: An empty HOUSE; no SHEETS, PAIRS");
        for (int i = -1; i < 13; i++) {
            for (int what = 0; what < 4; what++) {
                check.due("of", new ColoursApart().of(i, what), -2);
            }
        }
        for (int what = 0; what < 4; what++) {
            check.due("count", new ColoursApart().count(what), 0);
        }
        for (int s = 0; s < 4; s++) {
            check.due("write: SHEETS are missing at first", new ColoursApart().write(s, 0, 0), -2);
        }
        check.due("unmet()", new ColoursApart().unmet(), -1);
        for (int name = 0; name < 8; name++) {
            ColoursApart x = new ColoursApart();
            x.add(0, false);
            x.add(WHITE, false);
            check.due("boxes are all 0 .. 255 at first", x.name(0, name), 0);
            check.due("boxes are all 0 .. 255 at first", x.name(1, name), 0);
        }
    }

    private static void newSights() {
        check.part("1: what Terms say of 'at first'");
        for (int sight = 0; sight < 4; sight++) {
            for (int number : new int[] {0, 1, 2, 127, 128, 254, 255}) {
                ColoursApart x = new ColoursApart();
                check.due("red as PLAIN", x.seen(sight, number << 16), number << 16);
                check.due("green as PLAIN", x.seen(sight, number << 8), number << 8);
                check.due("blue as PLAIN", x.seen(sight, number), number);
            }
        }
        check.due("5 LEVELS", new ColoursApart().levels(2), 5);
        check.due("PLAIN alone", new ColoursApart().sights(63), 1);
        check.due("L is 3", new ColoursApart().grid(2), 3);
        check.due("red's WEIGHT is 1", new ColoursApart().distance(0, 0, 0x010000), 1);
        check.due("green's WEIGHT is 1", new ColoursApart().distance(0, 0, 0x000100), 1);
        check.due("blue's WEIGHT is 1", new ColoursApart().distance(0, 0, 0x000001), 1);
    }

    private static void newLatest() {
        check.part("1: nothing was called yet");
        check.due("status() ahead of any", new ColoursApart().status(), 0);
        check.due("stuck()", new ColoursApart().stuck(), 0);
        for (int k = -1; k < 13; k++) {
            check.due("chosen", new ColoursApart().chosen(k), -1);
            check.due("step", new ColoursApart().step(k), -1);
            check.due("rising", new ColoursApart().rising(k), -1);
        }
        for (int k = 0; k < 3; k++) {
            ColoursApart x = new ColoursApart();
            check.refused("back", x, x.back(k), -6);
        }
    }

    private static void sheetRanges() {
        check.part("2: -1 SHEET, sort, n above 60");
        edges.range("sheet(.., 0, 5)", 0, 3, -1, (x, s) -> x.sheet(s, BYTES, 5));
        edges.range("sheet(1, .., 5)", 0, 2, -1, (x, sort) -> x.sheet(1, sort, 5));
        for (int n : new int[] {61, 62, 256, 65536, MAX}) {
            edges.refused("sheet(0, 1, " + n + ")", -1, x -> x.sheet(0, SHORTS, n));
            edges.refused("sheet(3, 1, " + n + ")", -1, x -> x.sheet(3, SHORTS, n));
        }
        check.part("2: -1 goes ahead of -4");
        edges.refused("sheet(-1, 0, -1)", -1, x -> x.sheet(-1, BYTES, -1));
        edges.refused("sheet(4, 0, -1)", -1, x -> x.sheet(4, BYTES, -1));
        edges.refused("sheet(0, -1, -1)", -1, x -> x.sheet(0, -1, -1));
        edges.refused("sheet(0, 3, -1)", -1, x -> x.sheet(0, 3, -1));
    }

    private static void sheetOfNone() {
        check.part("2: a row with 0 numbers");
        for (int s = 0; s < 4; s++) {
            for (int sort = 0; sort < 3; sort++) {
                ColoursApart x = new ColoursApart();
                check.taken("sheet(.., 0)", x, x.sheet(s, sort, 0), 0);
                check.due("it is there", x.count(3), 1);
                check.refused("it has no place 0", x, x.write(s, 0, 1), -3);
                check.refused("it has no place -1", x, x.write(s, -1, 1), -3);
                check.taken("nine zeros", x, x.weak(1, s, 0), 0);
                check.due("seen(1, WHITE)", x.seen(1, WHITE), 0);
            }
        }
    }

    private static void sheetOfSixty() {
        check.part("2: rows with 59, 60 numbers");
        for (int sort = 0; sort < 3; sort++) {
            for (int n = 59; n <= 60; n++) {
                ColoursApart x = new ColoursApart();
                check.taken("sheet", x, x.sheet(3, sort, n), n);
                check.taken("the last place", x, x.write(3, n - 1, 1), 0);
                check.refused("behind the last place", x, x.write(3, n, 1), -3);
            }
        }
        ColoursApart x = new ColoursApart();
        for (int s = 0; s < 4; s++) {
            check.taken("each of the four", x, x.sheet(s, INTS, 60), 60);
            check.due("count(3)", x.count(3), s + 1);
        }
    }

    private static void sheetBelowNone() {
        check.part("2: -4 (then it is missing)");
        for (int n : new int[] {-1, -2, -60, -61, MIN}) {
            for (int s = 0; s < 4; s++) {
                ColoursApart x = Busy.make();
                check.refused("sheet(.., " + n + ")", x, x.sheet(s, BYTES, n), -4);
                check.due("count(3)", x.count(3), s == 3 ? 3 : 2);
                check.refused("write: missing", x, x.write(s, 0, 0), -2);
                check.refused("weak: missing", x, x.weak(1, s, 0), -2);
                check.taken("another one stays", x, x.write(s == 0 ? 1 : 0, 8, 0), 0);
                check.taken("it can be made again", x, x.sheet(s, BYTES, 1), 1);
                check.taken("write", x, x.write(s, 0, 0), 0);
            }
        }
        int[] others = {Busy.EYES, Busy.HOUSE, Busy.BOXES, Busy.PAIRS, Busy.IMAGES, Busy.LATEST};
        for (int look : others) {
            ColoursApart x = Busy.make();
            x.sheet(0, BYTES, -1);
            check.same("all else stays (look " + look + ")", Busy.look(look, x), Busy.look(look, Busy.make()));
        }
    }

    private static void sheetIsAllZero() {
        check.part("2: n numbers 0");
        ColoursApart x = new ColoursApart();
        Busy.fill(x, 0, INTS, 1000, 1000, 1000, 1000, 1000, 1000, 1000, 1000, 1000);
        x.sheet(0, INTS, 9);
        x.weak(1, 0, 0);
        check.due("as long as before", x.seen(1, WHITE), 0);
        Busy.fill(x, 0, INTS, 1000, 1000, 1000, 1000, 1000, 1000, 1000, 1000, 1000);
        x.sheet(0, INTS, 1);
        x.sheet(0, INTS, 9);
        x.weak(1, 0, 0);
        check.due("shorter, then longer", x.seen(1, WHITE), 0);
        Busy.fill(x, 0, INTS, 1000, 1000, 1000, 1000, 1000, 1000, 1000, 1000, 1000);
        x.sheet(0, INTS, -1);
        x.sheet(0, INTS, 9);
        x.weak(1, 0, 0);
        check.due("missing, then there", x.seen(1, WHITE), 0);
        Busy.fill(x, 0, INTS, 1000, 1000, 1000, 1000, 1000, 1000, 1000, 1000, 1000);
        x.sheet(0, INTS, 2);
        x.weak(1, 0, 0);
        check.due("what is not there any more is 0", x.seen(1, WHITE), 0);
        check.part("2, 4: 0, not below it");
        x.sheet(0, INTS, 60);
        x.write(0, 0, 500);
        x.weak(1, 0, 0);
        check.due("500 red and nothing of 255 green and blue", x.seen(1, 0x01FFFF), 0x010000);
        x.sheet(0, INTS, 1);
        x.write(0, 0, 500);
        x.weak(1, 0, 0);
        check.due("numbers that are not there", x.seen(1, 0x01FFFF), 0x010000);
    }

    private static void writeRefused() {
        check.part("3: -1 no SHEET 0 .. 3; -2 it is missing; -3");
        edges.rangeOf(Busy::withFourSheets, "write(.., 0, 5)", 0, 3, -1, (x, s) -> x.write(s, 0, 5));
        edges.refused("write(3, 0, 5)", -2, x -> x.write(3, 0, 5));
        edges.refused("write(0, -1, 5)", -3, x -> x.write(0, -1, 5));
        edges.refused("write(0, 12, 5)", -3, x -> x.write(0, 12, 5));
        edges.refused("write(1, 9, 5)", -3, x -> x.write(1, 9, 5));
        edges.refused("write(2, 60, 5)", -3, x -> x.write(2, 60, 5));
        edges.refused("write(2, MIN, 5)", -3, x -> x.write(2, MIN, 5));
        edges.refused("write(2, MAX, 5)", -3, x -> x.write(2, MAX, 5));
        check.part("3: -1 goes ahead of -2, -2 ahead of -3");
        edges.refused("write(-1, -1, 5)", -1, x -> x.write(-1, -1, 5));
        edges.refused("write(4, 60, 5)", -1, x -> x.write(4, 60, 5));
        edges.refused("write(3, -1, 5)", -2, x -> x.write(3, -1, 5));
        edges.refused("write(3, 60, 5)", -2, x -> x.write(3, 60, 5));
    }

    private static void writeEnds() {
        check.part("3: the first and the last place");
        ColoursApart x = new ColoursApart();
        x.sheet(3, INTS, 9);
        check.taken("write(3, 0, 1000)", x, x.write(3, 0, 1000), 0);
        check.taken("write(3, 8, 500)", x, x.write(3, 8, 500), 0);
        x.weak(1, 3, 0);
        check.due("red of red, blue of blue", x.seen(1, 0x0A0B0C), 0x0A0006);
    }

    /** What is seen of white by a row of three times this number: (765 number + 500) / 1000. */
    private static void dueNumber(int sort, int v, int number) {
        ColoursApart x = new ColoursApart();
        Busy.fill(x, 0, sort, v, v, v, 0, v);
        check.taken("weak of " + v, x, x.weak(1, 0, 0), 0);
        int red = Math.max(0, Math.min(255, Math.floorDiv(765 * number + 500, 1000)));
        int green = Math.max(0, Math.min(255, Math.floorDiv(255 * number + 500, 1000)));
        check.due(v + " is read as " + number, x.seen(1, WHITE), red * 0x010000 + green * 0x000100);
    }

    private static void dueTooFar(int sort, int v) {
        edges.refusedOf(() -> {
            ColoursApart x = Busy.make();
            Busy.fill(x, 0, sort, v);
            return x;
        }, v + " is beyond 3000", -1, x -> x.weak(1, 0, 0));
    }

    private static void bytes() {
        check.part("3: as a byte has its lowest bits; VI: 0 .. 255 as they are read");
        dueNumber(BYTES, 0, 0);
        dueNumber(BYTES, 1, 1);
        dueNumber(BYTES, 2, 2);
        dueNumber(BYTES, 127, 127);
        dueNumber(BYTES, 128, 128);
        dueNumber(BYTES, 254, 254);
        dueNumber(BYTES, 255, 255);
        dueNumber(BYTES, 256, 0);
        dueNumber(BYTES, 257, 1);
        dueNumber(BYTES, 258, 2);
        dueNumber(BYTES, 511, 255);
        dueNumber(BYTES, 512, 0);
        dueNumber(BYTES, -1, 255);
        dueNumber(BYTES, -128, 128);
        dueNumber(BYTES, -129, 127);
        dueNumber(BYTES, -256, 0);
        dueNumber(BYTES, -257, 255);
        dueNumber(BYTES, 3001, 3001 - 11 * 256);
        dueNumber(BYTES, MIN, 0);
        dueNumber(BYTES, MAX, 255);
    }

    private static void shorts() {
        check.part("3: as a short has its lowest bits");
        dueNumber(SHORTS, 255, 255);
        dueNumber(SHORTS, 256, 256);
        dueNumber(SHORTS, -1, -1);
        dueNumber(SHORTS, 3000, 3000);
        dueTooFar(SHORTS, 3001);
        dueTooFar(SHORTS, 32767);
        dueTooFar(SHORTS, 32768);
        dueTooFar(SHORTS, 65536 - 3001);
        dueNumber(SHORTS, 65536 - 3000, -3000);
        dueNumber(SHORTS, 65535, -1);
        dueNumber(SHORTS, 65536, 0);
        dueNumber(SHORTS, 65536 + 800, 800);
        dueTooFar(SHORTS, 65536 + 3001);
        dueTooFar(SHORTS, -3001);
        dueNumber(SHORTS, -3000, -3000);
        dueNumber(SHORTS, -65536, 0);
        dueNumber(SHORTS, 800 - 65536, 800);
        dueNumber(SHORTS, MIN, 0);
        dueNumber(SHORTS, MAX, -1);
        check.part("3: a short below 0 stays below 0");
        ColoursApart x = new ColoursApart();
        Busy.fill(x, 0, SHORTS, 1000, -500, 0);
        x.weak(1, 0, 0);
        check.due("1000 red less 500 green", x.seen(1, 0x644000), (100 - 32) << 16);
        x.write(0, 1, 65536 - 500);
        x.weak(1, 0, 0);
        check.due("the same", x.seen(1, 0x644000), (100 - 32) << 16);
    }

    private static void ints() {
        check.part("3: an int keeps all");
        dueNumber(INTS, 3000, 3000);
        dueNumber(INTS, -3000, -3000);
        dueTooFar(INTS, 3001);
        dueTooFar(INTS, -3001);
        dueTooFar(INTS, 65535);
        dueTooFar(INTS, 65536);
        dueTooFar(INTS, 65536 - 3000);
        dueTooFar(INTS, -65536);
        dueTooFar(INTS, 1 << 24);
        dueTooFar(INTS, MIN);
        dueTooFar(INTS, MAX);
    }

    private static void weakRefused() {
        check.part("4: -1 SIGHT, SHEET, a place below 0");
        edges.range("weak(.., 1, 0)", 1, 3, -1, (x, sight) -> x.weak(sight, 1, 0));
        edges.rangeOf(Busy::withFourSheets, "weak(1, .., 0)", 0, 3, -1, (x, s) -> x.weak(1, s, 0));
        edges.refused("weak(1, 0, -1)", -1, x -> x.weak(1, 0, -1));
        edges.refused("weak(1, 0, -9)", -1, x -> x.weak(1, 0, -9));
        edges.refused("weak(1, 0, MIN)", -1, x -> x.weak(1, 0, MIN));
        check.part("4: -2");
        edges.refused("weak(1, 3, 0)", -2, x -> x.weak(1, 3, 0));
        edges.refused("weak(3, 3, MAX)", -2, x -> x.weak(3, 3, MAX));
        check.part("4: -1 goes ahead of -2");
        edges.refused("weak(0, 3, 0)", -1, x -> x.weak(0, 3, 0));
        edges.refused("weak(4, 3, 0)", -1, x -> x.weak(4, 3, 0));
        edges.refused("weak(1, 3, -1)", -1, x -> x.weak(1, 3, -1));
        check.part("4: then -1 a number");
        edges.refused("weak(1, 2, 30)", -1, x -> x.weak(1, 2, 30));
        edges.refused("weak(1, 2, 22)", -1, x -> x.weak(1, 2, 22));
        ColoursApart x = Busy.make();
        check.taken("place 30 is not among the nine", x, x.weak(1, 2, 21), 0);
        check.taken("place 30 lies ahead", x, x.weak(1, 2, 31), 0);
    }

    private static ColoursApart withNumberAt(int at, int v) {
        ColoursApart x = Busy.make();
        x.sheet(0, INTS, 9);
        x.write(0, at, v);
        return x;
    }

    private static void weakNumbers() {
        check.part("I: thousandths, -3000 .. 3000");
        for (int i = 0; i < 9; i++) {
            int at = i;
            for (int v : new int[] {3000, -3000}) {
                ColoursApart x = withNumberAt(at, v);
                check.taken("number " + at + ": " + v, x, x.weak(2, 0, 0), 0);
                check.due("what it gives", x.seen(2, WHITE), v < 0 ? 0 : 255 << 16 - at / 3 * 8);
            }
            edges.refusedOf(() -> withNumberAt(at, 3001), "number " + at + ": 3001", -1, x -> x.weak(2, 0, 0));
            edges.refusedOf(() -> withNumberAt(at, -3001), "number " + at + ": -3001", -1, x -> x.weak(2, 0, 0));
        }
    }

    private static void weakNineNumbers() {
        check.part("4: the nine numbers from a place on");
        ColoursApart x = new ColoursApart();
        Busy.fill(x, 0, INTS, 9999, 1000, 0, 0, 0, 1000, 0, 0, 0, 1000, 9999);
        check.refused("from 0: the first is 9999", x, x.weak(1, 0, 0), -1);
        check.taken("from 1: nine that can be", x, x.weak(1, 0, 1), 0);
        check.due("as PLAIN", x.seen(1, 0x123456), 0x123456);
        check.refused("from 2: the ninth is 9999", x, x.weak(1, 0, 2), -1);
        check.due("the sight stays", x.seen(1, 0x123456), 0x123456);
        check.refused("from 10: 9999 and eight that are not there", x, x.weak(1, 0, 10), -1);
        check.taken("from 11: what is not there is 0", x, x.weak(1, 0, 11), 0);
        check.due("black", x.seen(1, WHITE), 0);
    }

    private static void weakPlaces() {
        check.part("4: what is not there: 0");
        for (int n : new int[] {9, 60}) {
            ColoursApart x = new ColoursApart();
            x.sheet(1, SHORTS, n);
            for (int i = n - 9; i < n; i++) {
                x.write(1, i, 400);
            }
            x.weak(1, 1, n - 9);
            check.due("all nine", x.seen(1, 0x0A0A0A), 0x0C0C0C);
            x.weak(1, 1, n - 8);
            check.due("eight and a 0", x.seen(1, 0x0A0A0A), 0x0C0C08);
            x.weak(1, 1, n - 6);
            check.due("six and three times 0", x.seen(1, 0x0A0A0A), 0x0C0C00);
            x.weak(1, 1, n - 1);
            check.due("one alone", x.seen(1, 0x0A0A0A), 0x040000);
            for (int from : new int[] {n, n + 1, MAX - 9, MAX - 8, MAX - 1, MAX}) {
                x.weak(1, 1, n - 9);
                check.taken("from " + from, x, x.weak(1, 1, from), 0);
                check.due("none", x.seen(1, WHITE), 0);
            }
        }
    }

    private static void weakIsACopy() {
        check.part("4: a SIGHT becomes the numbers; the SHEET may change then");
        ColoursApart x = new ColoursApart();
        Busy.fill(x, 0, INTS, 500);
        x.weak(3, 0, 0);
        x.write(0, 0, 1000);
        check.due("written", x.seen(3, 0x640000), 50 << 16);
        x.sheet(0, INTS, -1);
        check.due("missing", x.seen(3, 0x640000), 50 << 16);
        check.due("1 is as PLAIN", x.seen(1, 0x640000), 0x640000);
        check.due("2 is as PLAIN", x.seen(2, 0x640000), 0x640000);
    }

    private static void weakRowByRow() {
        check.part("I: row by row");
        for (int sight = 1; sight < 4; sight++) {
            for (int at = 0; at < 9; at++) {
                ColoursApart x = new ColoursApart();
                x.sheet(0, INTS, 9);
                x.write(0, at, 1000);
                x.weak(sight, 0, 0);
                int part = new int[] {0x12, 0x34, 0x56}[at % 3];
                check.due("number " + at + " of sight " + sight, x.seen(sight, 0x123456), part << 16 - at / 3 * 8);
            }
        }
    }

    /** What is seen of red 1, green 1, blue 1 by rows of three numbers each. */
    private static void dueSeen(String what, int colour, int due, int... numbers) {
        ColoursApart x = new ColoursApart();
        Busy.fill(x, 0, INTS, numbers);
        x.weak(2, 0, 0);
        check.due(what, x.seen(2, colour), due);
    }

    private static void weakRounding() {
        check.part("I: (that sum + 500) / 1000, rounded down");
        dueSeen("499, 500, 501", 0x010000, 0x000101, 499, 0, 0, 500, 0, 0, 501, 0, 0);
        dueSeen("1499, 1500, 1501", 0x000100, 0x010202, 0, 1499, 0, 0, 1500, 0, 0, 1501, 0);
        dueSeen("2499, 2500, 3000", 0x000001, 0x020303, 0, 0, 2499, 0, 0, 2500, 0, 0, 3000);
        dueSeen("sums of three", 0x010101, 0x000101, 166, 166, 167, 166, 167, 167, 3000, -1000, -1500);
        dueSeen("one sum, not three roundings", 0x010101, 0x010000, 400, 400, 400, 499, 499, -499, 2499, -2000, 0);
    }

    private static void weakHeld() {
        check.part("I: at least 0, at most 255");
        dueSeen("0, -1, -499", 0x010000, 0, 0, 0, 0, -1, 0, 0, -499, 0, 0);
        dueSeen("-500, -501, -3000", 0x010000, 0, -500, 0, 0, -501, 0, 0, -3000, 0, 0);
        dueSeen("the lowest sum", WHITE, 0, -3000, -3000, -3000, -3000, -3000, -3000, -3000, -3000, -3000);
        dueSeen("254499, 254500, 254501", 0xFE0100, 0xFEFFFF, 1000, 499, 0, 1000, 500, 0, 1000, 501, 0);
        dueSeen("255499, 255500, 255501", 0xFF0100, WHITE, 1000, 499, 0, 1000, 500, 0, 1000, 501, 0);
        dueSeen("256000, 258000, 511000", 0xFF0100, WHITE, 1000, 1000, 0, 1000, 3000, 0, 2000, 1000, 0);
        dueSeen("the greatest sum", WHITE, WHITE, 3000, 3000, 3000, 3000, 3000, 3000, 3000, 3000, 3000);
    }

    private static void levels() {
        check.part("5: LEVELS 2 .. 16: what they were; -1");
        edges.range("levels", 2, 16, -1, (x, n) -> x.levels(n));
        ColoursApart x = new ColoursApart();
        int before = 5;
        for (int n = 2; n <= 16; n++) {
            check.taken("levels(" + n + ")", x, x.levels(n), before);
            before = n;
        }
        check.taken("the same again", x, x.levels(16), 16);
        check.refused("levels(17)", x, x.levels(17), -1);
        check.taken("what they were is 16 still", x, x.levels(2), 16);
    }

    private static void dueLevels(int n, int... levels) {
        ColoursApart x = new ColoursApart();
        x.levels(n);
        for (int level : levels) {
            check.due(n + " LEVELS have " + level, x.seen(5, level), level);
            if (level > 0) {
                check.due("just below it", x.seen(5, level - 1), level);
            }
            if (level < 255) {
                check.due("just above it", x.seen(5, level + 1), level);
            }
        }
    }

    private static void levelsCut() {
        check.part("I: level i is (i 255 + (N - 1) / 2) / (N - 1), cut (both divisions)");
        dueLevels(2, 0, 255);
        dueLevels(3, 0, 128, 255);
        dueLevels(4, 0, 85, 170, 255);
        dueLevels(5, 0, 64, 128, 191, 255);
        dueLevels(8, 0, 36, 73, 109, 146, 182, 219, 255);
        dueLevels(11, 0, 26, 51, 77, 102, 128, 153, 179, 204, 230, 255);
        dueLevels(12, 0, 23, 46, 70, 93, 116, 139, 162, 185, 209, 232, 255);
        dueLevels(16, 0, 17, 34, 51, 68, 85, 102, 119, 136, 153, 170, 187, 204, 221, 238, 255);
    }

    private static void dueNearest(int n, int number, int due) {
        ColoursApart x = new ColoursApart();
        x.levels(n);
        check.due(n + " LEVELS, red " + number, x.seen(5, number << 16), due << 16);
        check.due(n + " LEVELS, green " + number, x.seen(5, number << 8), due << 8);
        check.due(n + " LEVELS, blue " + number, x.seen(5, number), due);
    }

    private static void nearestOfTwo() {
        check.part("I: nearest: of two the lower");
        dueNearest(2, 127, 0);
        dueNearest(2, 128, 255);
        dueNearest(3, 63, 0);
        dueNearest(3, 64, 0);
        dueNearest(3, 65, 128);
        dueNearest(3, 191, 128);
        dueNearest(3, 192, 255);
        dueNearest(5, 31, 0);
        dueNearest(5, 32, 0);
        dueNearest(5, 33, 64);
        dueNearest(5, 96, 64);
        dueNearest(5, 97, 128);
        dueNearest(5, 159, 128);
        dueNearest(5, 160, 191);
        dueNearest(5, 223, 191);
        dueNearest(5, 224, 255);
        dueNearest(8, 18, 0);
        dueNearest(8, 19, 36);
        dueNearest(16, 8, 0);
        dueNearest(16, 9, 17);
        dueNearest(16, 246, 238);
        dueNearest(16, 247, 255);
    }

    private static void weights() {
        check.part("6: WEIGHTS 0 .. 10; -1");
        edges.range("weights(.., 1, 1)", 0, 10, -1, (x, w) -> x.weights(w, 1, 1));
        edges.range("weights(1, .., 1)", 0, 10, -1, (x, w) -> x.weights(1, w, 1));
        edges.range("weights(1, 1, ..)", 0, 10, -1, (x, w) -> x.weights(1, 1, w));
        edges.refused("weights(11, -1, 11)", -1, x -> x.weights(11, -1, 11));
        ColoursApart x = new ColoursApart();
        check.taken("weights(0, 10, 1)", x, x.weights(0, 10, 1), 0);
        check.due("red does not count", x.distance(0, 0, 0xFF0000), 0);
        check.due("green counts tenfold", x.distance(0, 0, 0x00FF00), 650250);
        check.due("blue counts once", x.distance(0, 0, 0x0000FF), 65025);
    }

    private static void sightsThatCount() {
        check.part("7: bits 1 .. 63: what they were; -1");
        edges.range("sights", 1, 63, -1, (x, bits) -> x.sights(bits));
        edges.refused("sights(128)", -1, x -> x.sights(128));
        ColoursApart x = new ColoursApart();
        check.taken("sights(63)", x, x.sights(63), 1);
        check.refused("sights(64)", x, x.sights(64), -1);
        check.refused("sights(0)", x, x.sights(0), -1);
        check.taken("63 still", x, x.sights(1), 63);
    }

    private static void grid() {
        check.part("8: L 2 .. 4: what it was; -1");
        edges.range("grid", 2, 4, -1, (x, l) -> x.grid(l));
        ColoursApart x = new ColoursApart();
        check.taken("grid(4)", x, x.grid(4), 3);
        check.refused("grid(5)", x, x.grid(5), -1);
        check.refused("grid(1)", x, x.grid(1), -1);
        check.taken("4 still", x, x.grid(2), 4);
        check.taken("the same again", x, x.grid(2), 2);
    }

    private static void duePlaces(int l, int... levels) {
        ColoursApart x = new ColoursApart();
        x.grid(l);
        int p = 0;
        for (int red : levels) {
            for (int green : levels) {
                for (int blue : levels) {
                    check.due("L " + l + ": place " + p, x.place(p), red * 65536 + green * 256 + blue);
                    p++;
                }
            }
        }
        check.due("behind the last", x.place(p), -1);
        check.due("ahead of the first", x.place(-1), -1);
        check.due("count(4)", x.count(4), p);
    }

    private static void places() {
        check.part("9: level i is i 255 / (L - 1), cut; NONE");
        duePlaces(2, 0, 255);
        duePlaces(3, 0, 127, 255);
        duePlaces(4, 0, 85, 170, 255);
        edges.askedRange("place", 0, 63, -1, (x, p) -> x.place(p));
    }

    private static void colours() {
        check.part("10 to 13: NONE for a COLOUR that can't be");
        for (int sight = 0; sight < 6; sight++) {
            int one = sight;
            edges.askedRange("seen(" + sight + ", ..)", 0, WHITE, -1, (x, c) -> x.seen(one, c));
            edges.askedRange("distance(" + sight + ", .., 5)", 0, WHITE, -1, (x, c) -> x.distance(one, c, 5));
            edges.askedRange("distance(" + sight + ", 5, ..)", 0, WHITE, -1, (x, c) -> x.distance(one, 5, c));
        }
        edges.askedRange("light", 0, WHITE, -1, (x, c) -> x.light(c));
        edges.askedRange("apart(.., 5)", 0, WHITE, -1, (x, c) -> x.apart(c, 5));
        edges.askedRange("apart(5, ..)", 0, WHITE, -1, (x, c) -> x.apart(5, c));
        edges.asked("apart(-1, -1)", -1, x -> x.apart(-1, -1));
        edges.asked("distance(0, -1, -1)", -1, x -> x.distance(0, -1, -1));
    }

    private static void sightNumbers() {
        check.part("10, 12: NONE for a SIGHT that can't be");
        edges.askedRange("seen(.., 5)", 0, 5, -1, (x, sight) -> x.seen(sight, 5));
        edges.askedRange("distance(.., 5, 6)", 0, 5, -1, (x, sight) -> x.distance(sight, 5, 6));
        edges.asked("seen(6, -1)", -1, x -> x.seen(6, -1));
        edges.asked("distance(6, 5, 5)", -1, x -> x.distance(6, 5, 5));
    }

    private static void dueLight(int colour, int light) {
        check.due("light", new ColoursApart().light(colour), light);
        check.due("seen(4, ..)", new ColoursApart().seen(4, colour), light * 0x010101);
    }

    private static void lightCut() {
        check.part("I: LIGHT: (299 red + 587 green + 114 blue) / 1000, cut");
        dueLight(0, 0);
        dueLight(0x010000, 0);
        dueLight(0x030000, 0);
        dueLight(0x040000, 1);
        dueLight(0x000100, 0);
        dueLight(0x000200, 1);
        dueLight(0x000008, 0);
        dueLight(0x000009, 1);
        dueLight(0x010101, 1);
        dueLight(0x0B000F, 4);
        dueLight(0x050505, 5);
        dueLight(0x019E3D, 99);
        dueLight(0x007AF9, 100);
        dueLight(0xF2FFFE, 250);
        dueLight(0xFBFBFB, 251);
        dueLight(0xFFFFFE, 254);
        dueLight(WHITE, 255);
    }

    private static void greyIsLight() {
        check.part("I: 4 GREY: red, green, blue seen are each LIGHT, in PLAIN");
        ColoursApart x = Busy.make();
        for (int colour : new int[] {0, 0x0B000F, 0x123456, 0xFF0000, WHITE}) {
            check.due("seen(4, ..)", x.seen(4, colour), x.light(colour) * 0x010101);
            check.due("light is that of a new object", x.light(colour), new ColoursApart().light(colour));
        }
    }

    private static void greatestDistance() {
        check.part("12: the least and the greatest DISTANCE");
        ColoursApart x = new ColoursApart();
        for (int sight = 0; sight < 6; sight++) {
            check.due("the same", x.distance(sight, 0x123456, 0x123456), 0);
            check.due("black and white", x.distance(sight, 0, WHITE), 195075);
            check.due("white and black", x.distance(sight, WHITE, 0), 195075);
        }
        x.weights(10, 10, 10);
        for (int sight = 0; sight < 6; sight++) {
            check.due("tenfold", x.distance(sight, 0, WHITE), 1950750);
        }
        check.due("tenfold", x.apart(0, WHITE), 1950750);
        x.weights(0, 0, 0);
        check.due("none", x.distance(0, 0, WHITE), 0);
        check.due("none", x.apart(0, WHITE), 0);
    }

    /** Of red 20 the SIGHTS see 20, 40, 60, 30, thrice 5, and black. */
    private static void leastOverSights() {
        check.part("13: the least DISTANCE over the SIGHTS that COUNT");
        ColoursApart x = new ColoursApart();
        Busy.fill(x, 0, INTS, 2000, 3000, 1500);
        x.weak(1, 0, 0);
        x.sheet(1, INTS, 1);
        x.write(1, 0, 3000);
        x.weak(2, 1, 0);
        x.write(1, 0, 1500);
        x.weak(3, 1, 0);
        int[] seen = {20 * 20, 40 * 40, 60 * 60, 30 * 30, 3 * 5 * 5, 0};
        for (int sight = 0; sight < 6; sight++) {
            check.due("distance(" + sight + ", ..)", x.distance(sight, 0x140000, 0), seen[sight]);
        }
        for (int bits = 1; bits < 64; bits++) {
            int least = 2000000;
            for (int sight = 0; sight < 6; sight++) {
                least = (bits >> sight & 1) == 1 ? Math.min(least, seen[sight]) : least;
            }
            x.sights(bits);
            check.due("apart with bits " + bits, x.apart(0x140000, 0), least);
            check.due("the other way", x.apart(0, 0x140000), least);
        }
    }
}
