/** Promises 1 to 35 of the document, sentence by sentence. */
final class SentencesOfPromises {
    private static final int WHITE = 0xFFFFFF;
    private static final int MIN = Integer.MIN_VALUE;
    private static final int MAX = Integer.MAX_VALUE;
    private static final int FARTHEST = 2000000;

    private final Check check;
    private final Document document;

    SentencesOfPromises(Check check, Document document) {
        this.check = check;
        this.document = document;
    }

    void readAll() {
        newObject();
        sheet();
        write();
        weak();
        settings();
        place();
        questions();
        add();
        set();
        fix();
        name();
        box();
        pair();
        contrast();
        of();
        best();
        move();
        settle();
        ramp();
        stepAndRising();
        group();
        image();
        back();
        count();
        status();
        refusedCallsOfStatus();
    }

    private static ColoursApart houseOf(int... colours) {
        ColoursApart x = new ColoursApart();
        for (int colour : colours) {
            x.add(colour, false);
        }
        return x;
    }

    private void newObject() {
        document.says("## Promise 1: A new object `ColoursApart()`: An empty HOUSE; no SHEETS, PAIRS.");
        ColoursApart x = new ColoursApart();
        for (int what = 0; what < 4; what++) {
            check.due("count(" + what + ")", x.count(what), 0);
        }
        check.due("no COLOUR", x.of(0, 0), -2);
        check.due("no PAIR", x.unmet(), -1);
    }

    private void sheet() {
        document.says("## Promise 2: sheet `int sheet(int s, int sort, int n)`:"
                + " A SHEET becomes a row of a sort with n numbers 0: n.");
        ColoursApart x = new ColoursApart();
        Busy.fill(x, 2, 2, 700, 700, 700, 700, 700, 700, 700, 700, 700);
        check.taken("a row of bytes", x, x.sheet(2, 0, 40), 40);
        x.weak(1, 2, 0);
        check.due("numbers 0", x.seen(1, WHITE), 0);
        x.sheet(1, 2, 9);
        x.write(1, 0, 500);
        x.weak(1, 1, 0);
        check.due("not below 0 either", x.seen(1, 0x01FFFF), 0x010000);
        x.sheet(1, 2, -1);
        x.write(2, 0, 1000);
        check.taken("as bytes", x, x.weak(1, 2, 0), 0);
        check.due("1000 is 232", x.seen(1, 0x640000), 23 << 16);
        check.taken("its last place", x, x.write(2, 39, 0), 0);
        check.refused("behind it", x, x.write(2, 40, 0), -3);
        check.taken("n 0", x, x.sheet(3, 1, 0), 0);
        check.taken("n 60", x, x.sheet(3, 1, 60), 60);
        document.says("-1 SHEET, sort, n above 60;");
        for (int[] wrong : new int[][] {{-1, 0, 1}, {4, 0, 1}, {0, -1, 1}, {0, 3, 1}, {0, 0, 61}, {MAX, 0, 1}, {0, 0, MAX}}) {
            check.refused("refused", x, x.sheet(wrong[0], wrong[1], wrong[2]), -1);
        }
        check.due("two are there as before", x.count(3), 2);
        document.says("-4 (then it is missing).");
        check.refused("-1", x, x.sheet(3, 0, -1), -4);
        check.due("one is there", x.count(3), 1);
        check.refused("missing", x, x.write(3, 0, 0), -2);
    }

    private void write() {
        document.says("## Promise 3: write `int write(int s, int i, int v)`:"
                + " A number of it, as a byte, short, int has its lowest bits: 0.");
        ColoursApart x = new ColoursApart();
        int[][] due = {{0, 0x1F4, 0xF4}, {1, 0x101F4, 0x1F4}, {2, 0x1F4, 0x1F4}, {0, -1, 255}, {1, 0xFFFFFE0C, -500}};
        for (int[] row : due) {
            x.sheet(0, row[0], 9);
            check.taken("write " + row[1], x, x.write(0, 0, row[1]), 0);
            check.taken("write 1000", x, x.write(0, 1, row[0] == 0 ? 200 : 1000), 0);
            x.weak(1, 0, 0);
            int sum = row[2] * 100 + (row[0] == 0 ? 200 : 1000) * 200;
            check.due("sort " + row[0] + ": " + row[1], x.seen(1, 0x64C800), (sum + 500) / 1000 << 16);
        }
        document.says("-1 no SHEET 0 .. 3;");
        check.refused("-1", x, x.write(-1, 0, 0), -1);
        check.refused("4", x, x.write(4, 0, 0), -1);
        document.says("-2 it is missing;");
        check.refused("SHEET 1", x, x.write(1, 0, 0), -2);
        document.says("-3.");
        check.refused("place -1", x, x.write(0, -1, 0), -3);
        check.refused("place 9 of 9", x, x.write(0, 9, 0), -3);
    }

    private void weak() {
        document.says("## Promise 4: weak `int weak(int sight, int s, int from)`: A WEAK SIGHT (1 .. 3) becomes"
                + " the nine numbers of a SHEET from a place on (what is not there: 0): 0.");
        ColoursApart x = new ColoursApart();
        Busy.fill(x, 1, 2, 9, 9, 0, 0, 500, 0, 600, 0, 700, 0, 0, 9);
        for (int sight = 1; sight <= 3; sight++) {
            check.taken("weak(" + sight + ", 1, 2)", x, x.weak(sight, 1, 2), 0);
            check.due("500 blue, 600 green, 700 red", x.seen(sight, 0x0A141E), 0x0F0C07);
        }
        check.taken("from place 8 on four numbers are there", x, x.weak(2, 1, 8), 0);
        check.due("700 red; 9 red", x.seen(2, 0x64FFFF), 0x460100);
        check.taken("behind its end", x, x.weak(3, 1, 12), 0);
        check.due("all 0", x.seen(3, WHITE), 0);
        check.due("the first stays", x.seen(1, 0x0A141E), 0x0F0C07);
        document.says("-1 SIGHT, SHEET, a place below 0;");
        check.refused("SIGHT 0", x, x.weak(0, 1, 0), -1);
        check.refused("SIGHT 4", x, x.weak(4, 1, 0), -1);
        check.refused("SHEET -1", x, x.weak(1, -1, 0), -1);
        check.refused("SHEET 4", x, x.weak(1, 4, 0), -1);
        check.refused("place -1", x, x.weak(1, 1, -1), -1);
        document.says("-2;");
        check.refused("SHEET 0 is missing", x, x.weak(1, 0, 0), -2);
        document.says("then -1 a number.");
        x.write(1, 10, 3001);
        check.refused("the ninth number", x, x.weak(1, 1, 2), -1);
        check.due("the SIGHT stays", x.seen(1, 0x0A141E), 0x0F0C07);
        check.taken("a tenth is not asked", x, x.weak(1, 1, 1), 0);
        check.taken("nor one ahead", x, x.weak(1, 1, 11), 0);
    }

    private void settings() {
        ColoursApart x = new ColoursApart();
        document.says("## Promise 5: levels `int levels(int n)`: LEVELS of PRINT: what they were; -1.");
        check.taken("levels(6)", x, x.levels(6), 5);
        check.taken("levels(16)", x, x.levels(16), 6);
        check.refused("levels(17)", x, x.levels(17), -1);
        check.refused("levels(1)", x, x.levels(1), -1);
        check.taken("levels(2)", x, x.levels(2), 16);
        check.due("two LEVELS", x.seen(5, 0x7F8090), 0x00FFFF);
        document.says("## Promise 6: weights `int weights(int red, int green, int blue)`: WEIGHTS: 0; -1.");
        check.taken("weights(7, 0, 10)", x, x.weights(7, 0, 10), 0);
        check.due("7 + 90", x.distance(0, 0x010203, 0), 97);
        check.refused("weights(7, 11, 10)", x, x.weights(7, 11, 10), -1);
        check.refused("weights(7, -1, 10)", x, x.weights(7, -1, 10), -1);
        check.due("as before", x.distance(0, 0x010203, 0), 97);
        document.says("## Promise 7: sights `int sights(int bits)`: SIGHTS that COUNT: what they were; -1.");
        check.taken("sights(32)", x, x.sights(32), 1);
        check.due("PRINT alone", x.apart(0x7F7F7F, 0x808080), 17 * 65025);
        check.taken("sights(63)", x, x.sights(63), 32);
        check.due("all", x.apart(0x7F7F7F, 0x808080), 17);
        check.refused("sights(64)", x, x.sights(64), -1);
        check.refused("sights(0)", x, x.sights(0), -1);
        check.taken("sights(1)", x, x.sights(1), 63);
        document.says("## Promise 8: grid `int grid(int l)`: L of the GRID: what it was; -1.");
        check.taken("grid(4)", x, x.grid(4), 3);
        check.refused("grid(5)", x, x.grid(5), -1);
        check.refused("grid(1)", x, x.grid(1), -1);
        check.due("64 places", x.count(4), 64);
        check.taken("grid(2)", x, x.grid(2), 4);
    }

    private void place() {
        document.says("## Promise 9: place `int place(int p)`:"
                + " A place of the GRID: its COLOUR, as red 65536 + green 256 + blue; NONE.");
        ColoursApart x = new ColoursApart();
        check.due("1 2 0 of 3", x.place(15), 127 * 65536 + 255 * 256);
        check.due("the last", x.place(26), WHITE);
        check.due("behind it", x.place(27), -1);
        check.due("ahead of the first", x.place(-1), -1);
        check.due("far off", x.place(MAX), -1);
    }

    private void questions() {
        document.says("## Promise 10: seen `int seen(int sight, int colour)`: What a SIGHT sees of a COLOUR, written so;");
        ColoursApart x = new ColoursApart();
        check.due("PRINT", x.seen(5, 0x50A0F0), 64 * 65536 + 191 * 256 + 255);
        check.due("GREY", x.seen(4, 0x50A0F0), 145 * 0x010101);
        document.says("NONE for a SIGHT, COLOUR that can't be.");
        for (int wrong : new int[] {-1, 6, MIN, MAX}) {
            check.due("SIGHT " + wrong, x.seen(wrong, 0), -1);
        }
        for (int wrong : new int[] {-1, WHITE + 1, MIN, MAX}) {
            check.due("COLOUR " + wrong, x.seen(4, wrong), -1);
        }
        document.says("## Promise 11: light `int light(int colour)`: LIGHT of a COLOUR; NONE.");
        check.due("145.2", x.light(0x50A0F0), 145);
        check.due("below", x.light(-1), -1);
        check.due("above", x.light(WHITE + 1), -1);
        document.says("## Promise 12: distance `int distance(int sight, int a, int b)`:"
                + " DISTANCE of two COLOURS in a SIGHT; NONE.");
        check.due("PLAIN", x.distance(0, 0x50A0F0, 0x51A2F3), 14);
        check.due("GREY 145 and 147", x.distance(4, 0x50A0F0, 0x51A2F3), 12);
        check.due("PRINT", x.distance(5, 0x50A0F0, 0x51A2F3), 0);
        check.due("a SIGHT", x.distance(6, 0, 0), -1);
        check.due("a", x.distance(0, -1, 0), -1);
        check.due("b", x.distance(0, 0, WHITE + 1), -1);
        document.says("## Promise 13: apart `int apart(int a, int b)`: APART of two COLOURS; NONE.");
        x.sights(1 + 16);
        check.due("GREY is less", x.apart(0x50A0F0, 0x51A2F3), 12);
        check.due("a", x.apart(WHITE + 1, 0), -1);
        check.due("b", x.apart(0, -1), -1);
    }

    private void add() {
        document.says("## Promise 14: add `int add(int colour, boolean fixed)`:"
                + " A COLOUR comes into the HOUSE, without a NAME: its number.");
        ColoursApart x = new ColoursApart();
        x.box(0, 5, 5);
        check.taken("the first", x, x.add(0xABCDEF, true), 0);
        check.taken("the second", x, x.add(0xABCDEF, false), 1);
        check.due("the COLOUR", x.of(1, 0), 0xABCDEF);
        check.due("FIXED", x.of(0, 1), 1);
        check.due("FREE", x.of(1, 1), 0);
        check.due("without a NAME", x.of(0, 2), -1);
        document.says("-1;");
        check.refused("below", x, x.add(-1, false), -1);
        check.refused("above", x, x.add(WHITE + 1, false), -1);
        document.says("-5.");
        for (int i = 2; i < 12; i++) {
            check.taken("add", x, x.add(i, false), i);
        }
        check.refused("a thirteenth", x, x.add(12, false), -5);
    }

    private void set() {
        document.says("## Promise 15: set `int set(int i, int colour)`:"
                + " It becomes another one (FREE ones alone): what it was.");
        ColoursApart x = houseOf(0x111111, 0x222222);
        check.taken("set(1, 0x333333)", x, x.set(1, 0x333333), 0x222222);
        check.due("it is", x.of(1, 0), 0x333333);
        check.due("the other stays", x.of(0, 0), 0x111111);
        document.says("-1 (a COLOUR; its NAME's box has it not);");
        check.refused("below", x, x.set(1, -1), -1);
        check.refused("above", x, x.set(1, WHITE + 1), -1);
        x.name(1, 0);
        x.box(0, 0x303030, 0x404040);
        check.refused("below the box", x, x.set(1, 0x302F30), -1);
        check.refused("above the box", x, x.set(1, 0x404041), -1);
        check.taken("in the box", x, x.set(1, 0x404040), 0x333333);
        document.says("-2;");
        check.refused("none at 2", x, x.set(2, 0), -2);
        check.refused("none at -1", x, x.set(-1, 0), -2);
        document.says("-6.");
        x.fix(0, true);
        check.refused("FIXED", x, x.set(0, 0), -6);
        check.due("it stays", x.of(0, 0), 0x111111);
    }

    private void fix() {
        document.says("## Promise 16: fix `int fix(int i, boolean is)`: It is FIXED, or FREE: 0.");
        ColoursApart x = houseOf(1, 2);
        check.taken("fix(1, true)", x, x.fix(1, true), 0);
        check.due("FIXED", x.of(1, 1), 1);
        check.due("the other is FREE", x.of(0, 1), 0);
        check.taken("fix(1, false)", x, x.fix(1, false), 0);
        check.due("FREE", x.of(1, 1), 0);
        document.says("-2.");
        check.refused("none at 2", x, x.fix(2, true), -2);
        check.refused("none at -1", x, x.fix(-1, true), -2);
    }

    private void name() {
        document.says("## Promise 17: name `int name(int i, int name)`: NAME of it (NONE: without): 0.");
        ColoursApart x = houseOf(0x303030, 0x505050);
        check.taken("name(0, 7)", x, x.name(0, 7), 0);
        check.due("NAME", x.of(0, 2), 7);
        check.taken("name(0, NONE)", x, x.name(0, -1), 0);
        check.due("without", x.of(0, 2), -1);
        check.taken("any box then", x, x.box(7, 5, 5), 0);
        document.says("-1 the box has it not, no NAME 0 .. 7;");
        check.refused("the box", x, x.name(0, 7), -1);
        check.refused("8", x, x.name(0, 8), -1);
        check.refused("-2", x, x.name(0, -2), -1);
        document.says("-2.");
        check.refused("none at 2", x, x.name(2, 0), -2);
        check.refused("none at -1", x, x.name(-1, -1), -2);
    }

    private void box() {
        document.says("## Promise 18: box `int box(int name, int from, int to)`:"
                + " A NAME's box, by two COLOURS (each of the three from .. to): 0.");
        ColoursApart x = houseOf(0x303030);
        check.taken("box", x, x.box(4, 0x203010, 0x405030), 0);
        check.taken("in it", x, x.name(0, 4), 0);
        for (int out : new int[] {0x1F3010, 0x202F10, 0x20300F, 0x415030, 0x405130, 0x405031}) {
            check.refused("out of it", x, x.set(0, out), -1);
        }
        check.taken("its lowest", x, x.set(0, 0x203010), 0x303030);
        check.taken("its highest", x, x.set(0, 0x405030), 0x203010);
        check.taken("a mixed one", x, x.set(0, 0x203030), 0x405030);
        document.says("-1 (from above to; COLOURS of the HOUSE with that NAME would be outside).");
        check.refused("red", x, x.box(5, 0x010000, 0x00FFFF), -1);
        check.refused("green", x, x.box(5, 0x000100, 0xFF00FF), -1);
        check.refused("blue", x, x.box(5, 0x000001, 0xFFFF00), -1);
        check.refused("from below", x, x.box(5, -1, WHITE), -1);
        check.refused("from above", x, x.box(5, WHITE + 1, WHITE), -1);
        check.refused("to below", x, x.box(5, 0, -1), -1);
        check.refused("to above", x, x.box(5, 0, WHITE + 1), -1);
        check.refused("NAME 8", x, x.box(8, 0, WHITE), -1);
        check.refused("NAME -1", x, x.box(-1, 0, WHITE), -1);
        check.refused("outside", x, x.box(4, 0x203031, WHITE), -1);
        check.taken("it was not changed", x, x.set(0, 0x203010), 0x203030);
    }

    private void pair() {
        document.says("## Promise 19: pair `int pair(int i, int k, int c)`:"
                + " A PAIR must CONTRAST by c / 10: how many PAIRS there are.");
        ColoursApart x = houseOf(0, 0x333333, WHITE, 1, 2, 3, 4);
        check.taken("64 / 13", x, x.pair(0, 1, 49), 1);
        check.due("4.9 is met", x.unmet(), -1);
        check.taken("268 / 64", x, x.pair(2, 1, 42), 2);
        check.due("4.1875 is below 4.2", x.unmet(), 1);
        check.taken("told again", x, x.pair(1, 2, 41), 2);
        check.due("not below 4.1", x.unmet(), -1);
        document.says("-1 (the same one; c);");
        check.refused("the same one", x, x.pair(1, 1, 20), -1);
        check.refused("9", x, x.pair(0, 1, 9), -1);
        check.refused("211", x, x.pair(0, 1, 211), -1);
        document.says("-2;");
        check.refused("none at 7", x, x.pair(7, 0, 20), -2);
        check.refused("none at -1", x, x.pair(0, -1, 20), -2);
        document.says("-5.");
        int told = 2;
        for (int i = 0; i < 7; i++) {
            for (int k = i + 1; k < 7 && told < 20; k++) {
                if (i > 1 || k > 2 || i == 0 && k == 2) {
                    told++;
                    check.taken("a new one", x, x.pair(i, k, 10), told);
                }
            }
        }
        check.refused("a new one more", x, x.pair(5, 6, 10), -5);
        check.taken("one of the 20", x, x.pair(2, 1, 10), 20);
    }

    private void contrast() {
        document.says("## Promise 20: contrast `int contrast(int a, int b, int what)`: CONTRAST of two COLOURS (of any)"
                + " as a fraction in lowest terms: its upper (what 0), lower (1) number; NONE.");
        ColoursApart x = new ColoursApart();
        check.due("64 / 20", x.contrast(0x333333, 0x070707, 0), 16);
        check.due("64 / 20", x.contrast(0x333333, 0x070707, 1), 5);
        check.due("100 / 100", x.contrast(0x575757, 0x575757, 1), 1);
        check.due("what 2", x.contrast(0, 0, 2), -1);
        check.due("what -1", x.contrast(0, 0, -1), -1);
        check.due("a", x.contrast(-1, 0, 0), -1);
        check.due("b", x.contrast(0, WHITE + 1, 0), -1);
        document.says("## Promise 21: unmet `int unmet()`: The first PAIR (as they came) whose CONTRAST is not met; NONE.");
        ColoursApart y = houseOf(0, 0, 0);
        check.due("no PAIRS", y.unmet(), -1);
        y.pair(1, 2, 20);
        y.pair(0, 1, 20);
        check.due("both are not", y.unmet(), 0);
        y.set(2, WHITE);
        check.due("the second is not", y.unmet(), 1);
        y.set(0, WHITE);
        check.due("both are", y.unmet(), -1);
    }

    private void of() {
        document.says("## Promise 22: of `int of(int i, int what)`: COLOUR i of the HOUSE (what 0),");
        ColoursApart x = houseOf(0x000010);
        check.due("COLOUR 0", x.of(0, 0), 0x000010);
        document.says("1 if it is FIXED, else 0 (1),");
        check.due("FREE", x.of(0, 1), 0);
        x.fix(0, true);
        check.due("FIXED", x.of(0, 1), 1);
        document.says("its NAME (2; NONE),");
        check.due("without", x.of(0, 2), -1);
        x.name(0, 0);
        check.due("NAME 0", x.of(0, 2), 0);
        document.says("the least APART of it from another one (3; NONE alone).");
        check.due("alone", x.of(0, 3), -1);
        x.add(0x000030, false);
        x.add(0x000018, true);
        check.due("8 8", x.of(0, 3), 64);
        check.due("24 24", x.of(1, 3), 576);
        check.due("the first is nearest", x.of(2, 3), 64);
        x.sights(32);
        check.due("in PRINT alike", x.of(0, 3), 0);
        check.due("in PRINT 64 and 0", x.of(1, 3), 4096);
        document.says("-2 without;");
        check.due("none at 3", x.of(3, 0), -2);
        check.due("none at -1", x.of(-1, 0), -2);
        document.says("-1 another what.");
        check.due("what 4", x.of(0, 4), -1);
        check.due("what -1", x.of(0, -1), -1);
    }

    private void best() {
        document.says("## Promise 23: best `int best(int n)`: BEST SET of n, kept as the latest: its least APART.");
        ColoursApart x = new ColoursApart();
        x.grid(2);
        x.add(0x00FFFF, true);
        check.taken("red alone", x, x.best(1), 195075);
        check.due("kept", x.chosen(0), 4);
        check.taken("black, magenta, yellow", x, x.best(3), 130050);
        check.due("kept as the latest", x.chosen(0), 0);
        document.says("-1.");
        check.refused("0", x, x.best(0), -1);
        check.refused("6", x, x.best(6), -1);
        x.grid(4);
        check.refused("5 of L 4", x, x.best(5), -1);
        document.says("## Promise 24: chosen `int chosen(int k)`: Place k of the latest BEST SET; NONE.");
        int[] due = {0, 5, 6};
        for (int k = 0; k < 3; k++) {
            check.due("chosen(" + k + ")", x.chosen(k), due[k]);
        }
        check.due("chosen(3)", x.chosen(3), -1);
        check.due("chosen(-1)", x.chosen(-1), -1);
        check.due("no BEST SET", new ColoursApart().chosen(0), -1);
    }

    private void move() {
        document.says("## Promise 25: move `int move(int i, int d)`: MOVE by D: the DISTANCE in PLAIN that it was moved.");
        ColoursApart x = houseOf(0x7F7F7F, 0x7F7F90);
        x.weights(9, 9, 2);
        x.sights(16);
        check.taken("127 and 128 in GREY", x, x.move(1, 20), 0);
        check.taken("141 in GREY, in PLAIN 111 of blue", x, x.move(1, 600), 111 * 111 * 2);
        check.due("where it is", x.of(1, 0), 0x7F7FFF);
        document.says("-1;");
        check.refused("0", x, x.move(1, 0), -1);
        check.refused("2,000,001", x, x.move(1, FARTHEST + 1), -1);
        document.says("-2;");
        check.refused("none at 2", x, x.move(2, 1), -2);
        check.refused("none at -1", x, x.move(-1, 1), -2);
        document.says("-6 it is FIXED, or there is no such place.");
        check.refused("no such place", x, x.move(1, FARTHEST), -6);
        x.fix(1, true);
        check.refused("FIXED", x, x.move(1, 1), -6);
        check.due("it stays", x.of(1, 0), 0x7F7FFF);
    }

    private void settle() {
        document.says("## Promise 26: settle `int settle(int d)`: SETTLE by D: how often a COLOUR was moved;"
                + " then stuck() tells whether it ended so.");
        ColoursApart x = houseOf(0, 0, 0, 0x010101);
        check.taken("three of four", x, x.settle(100), 3);
        check.due("not STUCK", x.stuck(), 0);
        check.taken("none", x, x.settle(100), 0);
        for (int i = 0; i < 4; i++) {
            x.fix(i, true);
        }
        check.taken("FIXED", x, x.settle(FARTHEST), 0);
        check.due("STUCK", x.stuck(), 1);
        document.says("-1.");
        check.refused("0", x, x.settle(0), -1);
        check.refused("2,000,001", x, x.settle(FARTHEST + 1), -1);
        document.says("(Ended after 50 MOVES at most, as STUCK.)");
        ColoursApart y = houseOf(0, 0, 0, 0, 0, 0, 0, 0, 0, 0, 0, 0);
        int moves = y.settle(1);
        check.due("50 at most: " + moves, moves >= 0 && moves <= 50 ? 1 : 0, 1);
        document.says("## Promise 27: stuck `int stuck()`: Whether the latest settle() was STUCK: 1, 0.");
        check.due("it was", x.stuck(), 1);
        check.due("settle(1)", x.settle(1), 0);
        check.due("the latest was not", x.stuck(), 0);
        check.due("no settle() yet", new ColoursApart().stuck(), 0);
    }

    private void ramp() {
        document.says("## Promise 28: ramp `int ramp(int a, int b, int n)`:"
                + " RAMP of two COLOURS in n steps, kept as the latest: at which point its last step lies.");
        ColoursApart x = new ColoursApart();
        check.taken("LIGHT 10 of grey 10", x, x.ramp(0, 0x0A0A0A, 3), 243);
        check.due("kept", x.step(1), 0x050505);
        check.taken("LIGHT 1 of grey 1", x, x.ramp(0, 0x010101, 2), 128);
        check.due("kept as the latest", x.step(1), 0x010101);
        document.says("-1;");
        check.refused("a", x, x.ramp(-1, WHITE, 2), -1);
        check.refused("b", x, x.ramp(0, WHITE + 1, 2), -1);
        check.refused("1", x, x.ramp(0, WHITE, 1), -1);
        check.refused("13", x, x.ramp(0, WHITE, 13), -1);
        document.says("-6.");
        check.refused("as dark", x, x.ramp(5, 5, 2), -6);
        check.refused("lighter", x, x.ramp(WHITE, 5, 2), -6);
        check.due("the latest stays", x.step(1), 0x010101);
    }

    private void stepAndRising() {
        document.says("## Promise 29: step `int step(int j)`: Step j of the latest RAMP: its COLOUR; NONE.");
        ColoursApart x = new ColoursApart();
        check.due("no RAMP", x.step(0), -1);
        check.due("no RAMP", x.rising(0), -1);
        x.ramp(0x141414, 0x282828, 5);
        for (int j = 0; j < 5; j++) {
            check.due("step " + j, x.step(j), (20 + 5 * j) * 0x010101);
        }
        check.due("step 5", x.step(5), -1);
        check.due("step -1", x.step(-1), -1);
        document.says("## Promise 30: rising `int rising(int sight)`: Whether the latest RAMP is RISING in a SIGHT: 1, 0;");
        check.due("in PLAIN", x.rising(0), 1);
        check.due("in PRINT 0 and 64", x.rising(5), 0);
        x.ramp(0x000000, WHITE, 5);
        check.due("the latest in PRINT", x.rising(5), 1);
        document.says("NONE (a SIGHT; no RAMP).");
        check.due("SIGHT 6", x.rising(6), -1);
        check.due("SIGHT -1", x.rising(-1), -1);
        check.due("no RAMP", new ColoursApart().rising(0), -1);
    }

    private void group() {
        document.says("## Promise 31: group `int group(int sight, int d, int i)`:"
                + " GROUP of COLOUR i: the lowest number in it.");
        ColoursApart x = houseOf(0x0000FF, 0x000040, 0x000060, 0x000050);
        int[] due = {0, 1, 1, 1};
        for (int i = 0; i < 4; i++) {
            check.due("of " + i, x.group(0, 257, i), due[i]);
        }
        check.due("by 0 each is alone", x.group(0, 0, 3), 3);
        check.due("by 2,000,000 all are one", x.group(0, FARTHEST, 3), 0);
        document.says("-1 SIGHT, D (0 .. 2,000,000);");
        check.due("SIGHT 6", x.group(6, 1, 0), -1);
        check.due("SIGHT -1", x.group(-1, 1, 0), -1);
        check.due("D -1", x.group(0, -1, 0), -1);
        check.due("D 2,000,001", x.group(0, FARTHEST + 1, 0), -1);
        document.says("-2.");
        check.due("none at 4", x.group(0, 1, 4), -2);
        check.due("none at -1", x.group(0, 1, -1), -2);
    }

    private static ColoursApart settled() {
        ColoursApart x = new ColoursApart();
        x.add(0x404040, true);
        x.add(0x808080, false);
        x.name(1, 2);
        x.box(2, 0x707070, 0x909090);
        x.pair(0, 1, 15);
        Busy.fill(x, 0, 2, 0, 1000);
        x.weak(3, 0, 0);
        x.levels(4);
        x.weights(1, 2, 3);
        x.sights(9);
        x.grid(4);
        return x;
    }

    private void dueAsSettled(String when, ColoursApart x) {
        check.due(when + ": the HOUSE", x.of(0, 0), 0x404040);
        check.due(when + ": FIXED", x.of(0, 1), 1);
        check.due(when + ": COLOURS", x.count(0), 2);
        check.due(when + ": NAME of it", x.of(1, 2), 2);
        check.due(when + ": NAMES' boxes", x.set(1, 0x6F7070), -1);
        check.due(when + ": NAMES' boxes", x.set(1, 0x707070), 0x808080);
        check.due(when + ": 125 / 77 is not below 1.5", x.unmet(), -1);
        check.due(when + ": PAIRS", x.count(2), 1);
        check.due(when + ": SIGHTS", x.seen(3, 0x001100), 0x110000);
        check.due(when + ": FIXED ones", x.count(1), 1);
        check.due(when + ": LEVELS", x.seen(5, 0x222222), 0);
        check.due(when + ": WEIGHTS", x.distance(0, 0, 0x010101), 6);
        check.due(when + ": what COUNTS", x.sights(9), 9);
        check.due(when + ": L", x.count(4), 64);
    }

    private void image() {
        document.says("## Promise 32: image `int image(int k)`: IMAGE k (0 .. 2): the HOUSE, NAMES, PAIRS, SIGHTS,"
                + " LEVELS, WEIGHTS, what COUNTS, L are kept: 0; -1.");
        for (int k = 0; k < 3; k++) {
            ColoursApart x = settled();
            check.taken("image(" + k + ")", x, x.image(k), 0);
            change(x);
            x.back(k);
            dueAsSettled("image(" + k + ")", x);
        }
        ColoursApart x = new ColoursApart();
        check.refused("-1", x, x.image(-1), -1);
        check.refused("3", x, x.image(3), -1);
    }

    private static void change(ColoursApart x) {
        x.fix(0, false);
        x.set(0, 0);
        x.name(1, -1);
        x.box(2, 0, 0);
        x.set(1, 0);
        x.add(7, true);
        x.pair(0, 1, 210);
        x.pair(0, 2, 210);
        x.weak(3, 0, 5);
        x.levels(16);
        x.weights(0, 0, 0);
        x.sights(63);
        x.grid(2);
    }

    private void back() {
        document.says("## Promise 33: back `int back(int k)`: They are as IMAGE k has them: 0.");
        ColoursApart x = settled();
        x.image(1);
        for (int times = 0; times < 3; times++) {
            change(x);
            check.taken("back(1)", x, x.back(1), 0);
            dueAsSettled("time " + times, x);
        }
        ColoursApart y = houseOf(0, WHITE, 0, WHITE);
        y.image(0);
        y.pair(3, 2, 200);
        y.image(1);
        y.back(0);
        y.pair(0, 1, 200);
        y.back(1);
        y.set(0, WHITE);
        check.due("a PAIR of 2 and 3", y.unmet(), -1);
        y.set(3, 0);
        check.due("a PAIR of 2 and 3", y.unmet(), 0);
        document.says("-1;");
        check.refused("-1", x, x.back(-1), -1);
        check.refused("3", x, x.back(3), -1);
        document.says("-6 it was not kept.");
        check.refused("0", x, x.back(0), -6);
        check.refused("2", x, x.back(2), -6);
    }

    private void count() {
        document.says("## Promise 34: count `int count(int what)`:"
                + " 0 COLOURS of the HOUSE, 1 FIXED ones, 2 PAIRS, 3 SHEETS that are there, 4 places of the GRID.");
        ColoursApart x = houseOf(1, 2, 3, 4, 5);
        x.fix(1, true);
        x.fix(3, true);
        x.pair(0, 1, 10);
        x.pair(0, 2, 10);
        x.pair(0, 3, 10);
        x.sheet(0, 0, 0);
        x.sheet(3, 0, 0);
        int[] due = {5, 2, 3, 2, 27};
        for (int what = 0; what < 5; what++) {
            check.due("count(" + what + ")", x.count(what), due[what]);
        }
        document.says("NONE for others.");
        for (int what : new int[] {-1, 5, MIN, MAX}) {
            check.due("count(" + what + ")", x.count(what), -1);
        }
    }

    private void status() {
        document.says("## Promise 35: status `int status()`: What the latest call of sheet, write, weak, levels,"
                + " weights, sights, grid, add, set, fix, name, box, pair, best, move, settle, ramp, image, back"
                + " was REFUSED by;");
        Edges.Call[] refused = {
            x -> x.sheet(0, 0, -1), x -> x.write(2, 60, 0), x -> x.weak(1, 3, 0), x -> x.levels(0),
            x -> x.weights(0, 0, 11), x -> x.sights(0), x -> x.grid(5), x -> x.add(-1, true), x -> x.set(0, 0),
            x -> x.fix(9, true), x -> x.name(9, 0), x -> x.box(9, 0, 0), x -> x.pair(0, 9, 20), x -> x.best(0),
            x -> x.move(0, 1), x -> x.settle(0), x -> x.ramp(5, 5, 2), x -> x.image(3), x -> x.back(2)};
        int[] due = {-4, -3, -2, -1, -1, -1, -1, -1, -6, -2, -2, -1, -2, -1, -6, -1, -6, -1, -6};
        for (int c = 0; c < refused.length; c++) {
            ColoursApart x = Busy.make();
            x.levels(5);
            check.due("call " + c, refused[c].on(x), due[c]);
            check.due("call " + c + ", then status()", x.status(), due[c]);
            check.due("call " + c + ", then status() again", x.status(), due[c]);
        }
        document.says("0 if it was not, or ahead of any.");
        check.due("ahead of any", new ColoursApart().status(), 0);
        ColoursApart x = new ColoursApart();
        check.due("REFUSED", x.best(0), -1);
        check.due("not REFUSED", x.best(1), FARTHEST);
        check.due("then status()", x.status(), 0);
    }

    /** What is asked without being told by status(): it stays what the latest of the other calls left. */
    private void refusedCallsOfStatus() {
        ColoursApart x = houseOf(1);
        x.back(0);
        int[] answers = {x.place(-1), x.seen(9, 0), x.light(-1), x.distance(9, 0, 0), x.apart(-1, 0),
            x.contrast(0, 0, 9), x.unmet(), x.of(0, 9), x.chosen(0), x.step(0), x.rising(0), x.group(9, 0, 0),
            x.count(9)};
        for (int a = 0; a < answers.length; a++) {
            check.due("question " + a, answers[a], -1);
        }
        check.due("status() is of back(0) still", x.status(), -6);
        check.due("COLOUR 0", x.of(0, 0), 1);
        check.due("status() is of back(0) still", x.status(), -6);
    }
}
