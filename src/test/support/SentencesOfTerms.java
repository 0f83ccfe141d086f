/** Terms I to VI of the document, sentence by sentence. */
final class SentencesOfTerms {
    private static final int WHITE = 0xFFFFFF;
    private static final int MIN = Integer.MIN_VALUE;
    private static final int MAX = Integer.MAX_VALUE;
    private static final int FARTHEST = 2000000;

    private final Check check;
    private final Document document;

    SentencesOfTerms(Check check, Document document) {
        this.check = check;
        this.document = document;
    }

    void readAll() {
        sights();
        weakNumbers();
        printLevels();
        lightAndDistance();
        apartAndContrast();
        refusedBy();
        house();
        pairs();
        grid();
        bestSet();
        move();
        moveSuits();
        settle();
        settleEnds();
        ramp();
        rising();
        groups();
        sheets();
    }

    private static ColoursApart weakEye(int... numbers) {
        ColoursApart x = new ColoursApart();
        Busy.fill(x, 0, 2, numbers);
        x.weak(1, 0, 0);
        return x;
    }

    /** FREE ones, on a GRID of two levels. */
    private static ColoursApart houseOf(int... colours) {
        ColoursApart x = new ColoursApart();
        x.grid(2);
        for (int colour : colours) {
            x.add(colour, false);
        }
        return x;
    }

    private void sights() {
        document.says("## Terms I. COLOURS have red, green, blue (0 .. 255).");
        ColoursApart x = new ColoursApart();
        for (int colour : new int[] {0, 0xFF0000, 0x00FF00, 0x0000FF, WHITE}) {
            check.due("a COLOUR", x.seen(0, colour), colour);
        }
        check.due("red 256", x.seen(0, 0x1000000), -1);
        check.due("below 0", x.seen(0, -1), -1);
        document.says("SIGHTS 0 .. 5: 0 PLAIN;");
        x.levels(2);
        check.due("as it is", x.seen(0, 0x0B5E9C), 0x0B5E9C);
        check.due("the last", x.seen(5, 0x0B5E9C), 0x0000FF);
        check.due("behind the last", x.seen(6, 0x0B5E9C), -1);
        check.due("ahead of the first", x.seen(-1, 0x0B5E9C), -1);
        document.says("1 .. 3 WEAK ones: nine numbers (thousandths, -3000 .. 3000), row by row:");
        int[] ends = {-3001, -3000, 3000, 3001};
        for (int end : ends) {
            for (int place = 0; place < 9; place++) {
                ColoursApart y = new ColoursApart();
                y.sheet(0, 2, 9);
                y.write(0, place, end);
                check.due(end + " at " + place, y.weak(1 + place % 3, 0, 0), end == -3001 || end == 3001 ? -1 : 0);
            }
        }
        document.says("red seen is the sum of the first three times red, green, blue, green seen of the next three,"
                + " blue seen of the last;");
        check.due("14, 32, 18", weakEye(100, 200, 300, 400, 500, 600, 700, -800, 900).seen(1, 0x0A141E), 0x0E2012);
        document.says("4 GREY: red, green, blue seen are each LIGHT;");
        check.due("18", x.seen(4, 0x0A141E), 0x121212);
        document.says("5 PRINT: each of the three at the nearest of LEVELS.");
        check.due("0, 128, 191", new ColoursApart().seen(5, 0x0A61C8), 0x0080BF);
    }

    private void weakNumbers() {
        document.says("Numbers seen of WEAK: (that sum + 500) / 1000, rounded down, at least 0, at most 255.");
        ColoursApart x = weakEye(1, 0, 0, 0, 2, 0, 0, 0, 3);
        check.due("255, 510, 765", x.seen(1, WHITE), 0x000101);
        check.due("249, 498, 747", x.seen(1, 0xF9F9F9), 0x000001);
        check.due("250, 500, 750", x.seen(1, 0xFAFAFA), 0x000101);
        check.due("100499 and 100500", weakEye(1000, 499, 500, 1000, 500).seen(1, 0x640100), 0x646500);
        ColoursApart y = weakEye(-1, 0, 0, 3000, 0, 0, 3000, -3000, 0);
        check.due("-255, 765000, 0", y.seen(1, 0xFFFF00), 0x00FF00);
        check.due("-255, 765000, 762000", y.seen(1, 0xFF0100), 0x00FFFF);
        check.due("-85, 255000, 252000", y.seen(1, 0x550100), 0x00FFFC);
        check.due("-765000 of each", weakEye(-3000, 0, 0, 0, -3000, 0, 0, 0, -3000).seen(1, WHITE), 0);
        document.says("At first WEAK ones are as PLAIN (1000 of each to itself).");
        for (int sight = 1; sight <= 3; sight++) {
            check.due("WEAK " + sight, new ColoursApart().seen(sight, 0x37A2F1), 0x37A2F1);
        }
    }

    private void printLevels() {
        document.says("LEVELS of PRINT are N (2 .. 16; 5 at first):"
                + " level i is (i 255 + (N - 1) / 2) / (N - 1), cut (both divisions);");
        check.due("5 at first", new ColoursApart().levels(2), 5);
        check.due("1", new ColoursApart().levels(1), -1);
        check.due("16", new ColoursApart().levels(16), 5);
        check.due("17", new ColoursApart().levels(17), -1);
        int[][] levels = {
            {0, 255}, {0, 128, 255}, {0, 85, 170, 255}, {0, 64, 128, 191, 255}, {0, 51, 102, 153, 204, 255},
            {0, 43, 85, 128, 170, 213, 255}, {0, 36, 73, 109, 146, 182, 219, 255}};
        for (int[] row : levels) {
            ColoursApart x = new ColoursApart();
            x.levels(row.length);
            for (int level : row) {
                check.due("a level of " + row.length, x.seen(5, level * 0x010101), level * 0x010101);
                int above = Math.min(255, level + 1);
                check.due("just above", x.seen(5, above * 0x010101), level * 0x010101);
            }
        }
        document.says("nearest: of two the lower.");
        ColoursApart x = new ColoursApart();
        check.due("32, 96, 160", x.seen(5, 0x2060A0), 0x0040BF);
        check.due("33, 97, 159", x.seen(5, 0x21619F), 0x408080);
        x.levels(16);
        check.due("8, 9, 25", x.seen(5, 0x080919), 0x001111);
    }

    private void lightAndDistance() {
        document.says("```text LIGHT: (299 red + 587 green + 114 blue) / 1000, cut.");
        ColoursApart x = new ColoursApart();
        check.due("2.869", x.light(0x030207), 2);
        check.due("124.2", x.light(0xC86432), 124);
        check.due("255", x.light(WHITE), 255);
        int[][] due = {{0xFA0000, 74}, {0x610000, 29}, {0x00FA00, 146}, {0x002E00, 27}, {0x0000C8, 22}, {0x00004F, 9}};
        for (int[] row : due) {
            check.due("just below, just above a whole number", x.light(row[0]), row[1]);
        }
        document.says("DISTANCE of two COLOURS in a SIGHT: of what is seen the squares of the differences,"
                + " times WEIGHTS (three, 0 .. 10; 1 at first), summed.");
        check.due("9 + 16 + 100", x.distance(0, 0x0A141E, 0x0D1014), 125);
        x.weights(2, 3, 5);
        check.due("18 + 48 + 500", x.distance(0, 0x0A141E, 0x0D1014), 566);
        check.due("18 and 15 in GREY", x.distance(4, 0x0A141E, 0x0D1014), 90);
        check.due("0 and 10", x.weights(0, 10, 0), 0);
        check.due("10 16", x.distance(0, 0x0A141E, 0x0D1014), 160);
        for (int wrong : new int[] {-1, 11}) {
            check.due("red " + wrong, x.weights(wrong, 1, 1), -1);
            check.due("green " + wrong, x.weights(1, wrong, 1), -1);
            check.due("blue " + wrong, x.weights(1, 1, wrong), -1);
        }
    }

    private void apartAndContrast() {
        document.says("APART: the least DISTANCE over the SIGHTS that COUNT (bits 1 .. 63; 1 at first: PLAIN alone).");
        ColoursApart x = new ColoursApart();
        check.due("PLAIN", x.apart(0x0A141E, 0x0D1014), 125);
        check.due("PLAIN and GREY", x.sights(17), 1);
        check.due("GREY is less", x.apart(0x0A141E, 0x0D1014), 27);
        check.due("PLAIN is less", x.apart(0x000008, 0x000009), 1);
        check.due("all", x.sights(63), 17);
        check.due("PRINT is least", x.apart(0x0A141E, 0x0D1014), 0);
        check.due("PRINT is more", x.apart(0x1F1F1F, 0x212121), 12);
        check.due("none", x.sights(0), -1);
        check.due("a seventh", x.sights(64), -1);
        document.says("CONTRAST of two COLOURS: (the greater LIGHT + 13) / (the lower one + 13), in PLAIN.");
        check.due("137", x.contrast(0x0A141E, 0xC86432, 0), 137);
        check.due("31", x.contrast(0x0A141E, 0xC86432, 1), 31);
        check.due("137, the other way", x.contrast(0xC86432, 0x0A141E, 0), 137);
    }

    private void refusedBy() {
        document.says("REFUSED by: -1 a number that can't be;");
        ColoursApart x = new ColoursApart();
        check.refused("levels(0)", x, x.levels(0), -1);
        document.says("-2 there is no such COLOUR of the HOUSE, NAME, SHEET;");
        check.refused("a COLOUR", x, x.fix(0, true), -2);
        check.refused("a SHEET", x, x.write(0, 0, 0), -2);
        document.says("-3 no such place in a SHEET;");
        x.sheet(0, 0, 4);
        check.refused("place 4 of 4", x, x.write(0, 4, 0), -3);
        document.says("-4 a length below 0;");
        check.refused("-1", x, x.sheet(0, 0, -1), -4);
        document.says("-5 no room;");
        ColoursApart full = houseOf(1, 2, 3, 4, 5, 6, 7, 8, 9, 10, 11, 12);
        check.refused("a thirteenth", full, full.add(13, false), -5);
        document.says("-6 there is none, or it is FIXED.");
        check.refused("no IMAGE", x, x.back(0), -6);
        x.add(0, true);
        check.refused("FIXED", x, x.set(0, 0), -6);
        document.says("The first of these in that order. ```");
        check.refused("-1, -2", x, x.write(4, 9, 0), -1);
        check.refused("-2, -3", x, x.write(0, 9, 0), -2);
        check.refused("-1, -4", x, x.sheet(0, 3, -1), -1);
        check.refused("-1, -5", full, full.add(-1, false), -1);
        check.refused("-2, -5", full, full.pair(0, 12, 10), -2);
        check.refused("-1, -6", x, x.set(0, -1), -1);
        check.refused("-1, -6 of a RAMP", x, x.ramp(WHITE, 0, 1), -1);
        check.refused("-1, -6 of a MOVE", x, x.move(0, 0), -1);
    }

    private void house() {
        document.says("II. THE HOUSE: 12 COLOURS at most, numbered as they come: FREE or FIXED; perhaps with a NAME.");
        ColoursApart x = new ColoursApart();
        for (int i = 0; i < 12; i++) {
            check.due("number " + i, x.add(100 + i, i % 2 == 0), i);
        }
        check.due("a thirteenth", x.add(0, false), -5);
        x.name(5, 3);
        for (int i = 0; i < 12; i++) {
            check.due("COLOUR " + i, x.of(i, 0), 100 + i);
            check.due("FIXED or FREE", x.of(i, 1), i % 2 == 0 ? 1 : 0);
            check.due("NAME", x.of(i, 2), i == 5 ? 3 : -1);
        }
        document.says("NAMES 0 .. 7, each a box (red, green, blue each from .. to; all 0 .. 255 at first);");
        for (int name = -2; name < 9; name++) {
            ColoursApart y = houseOf(0, WHITE, 0x203040);
            int due = name < -1 || name > 7 ? -1 : 0;
            check.due("black in box " + name, y.name(0, name), due);
            check.due("white in box " + name, y.name(1, name), due);
            check.due("another name's box", y.box((name + 11) % 8, 0x203040, 0x203040), 0);
            check.due("black in box " + name, y.name(0, name), due);
        }
        document.says("a COLOUR with a NAME lies in its box (what would not is REFUSED by -1).");
        ColoursApart z = houseOf(0x203040, 0x103040);
        check.due("a box", z.box(6, 0x203040, 0x304050), 0);
        check.due("in it", z.name(0, 6), 0);
        check.refused("it would leave", z, z.set(0, 0x314050), -1);
        check.refused("the box would leave", z, z.box(6, 0x213040, 0x304050), -1);
        check.refused("it was never in", z, z.name(1, 6), -1);
        check.refused("no place is in", z, z.move(0, 5000), -6);
        check.due("it is where it was", z.of(0, 0), 0x203040);
    }

    private void pairs() {
        document.says("PAIRS: 20 at most, two COLOURS of the HOUSE whose CONTRAST must not be below c / 10"
                + " (c 10 .. 210);");
        ColoursApart x = houseOf(0, 1, 2, 3, 4, 5, 6);
        int told = 0;
        for (int i = 0; i < 7; i++) {
            for (int k = 0; k < i; k++) {
                told++;
                check.due("PAIR " + told, x.pair(i, k, 10), told <= 20 ? told : -5);
            }
        }
        ColoursApart y = houseOf(0, 0x363636);
        check.due("9", y.pair(0, 1, 9), -1);
        check.due("10", y.pair(0, 1, 10), 1);
        check.due("210", y.pair(0, 1, 210), 1);
        check.due("211", y.pair(0, 1, 211), -1);
        y.pair(0, 1, 51);
        check.due("67 / 13 is not below 5.1", y.unmet(), -1);
        y.pair(0, 1, 52);
        check.due("67 / 13 is below 5.2", y.unmet(), 0);
        y.set(1, 0x343434);
        y.pair(0, 1, 50);
        check.due("65 / 13 is 5", y.unmet(), -1);
        y.set(1, 0x363636);
        document.says("of a PAIR that is told again the c is changed.");
        check.due("as it was told", y.pair(0, 1, 51), 1);
        check.due("met", y.unmet(), -1);
        check.due("the other way", y.pair(1, 0, 52), 1);
        check.due("unmet", y.unmet(), 0);
        check.due("of 20 too", x.pair(0, 1, 210), 20);
        check.due("unmet", x.unmet(), 0);
    }

    private void grid() {
        document.says("```text GRID: L (2 .. 4; 3 at first) levels of each of the three: level i is i 255 / (L - 1), cut;");
        ColoursApart x = new ColoursApart();
        check.due("1", x.grid(1), -1);
        check.due("5", x.grid(5), -1);
        int[] three = {0, 127, 255};
        for (int i = 0; i < 3; i++) {
            check.due("level " + i + " of 3", x.place(i), three[i]);
        }
        check.due("3 at first", x.grid(4), 3);
        int[] four = {0, 85, 170, 255};
        for (int i = 0; i < 4; i++) {
            check.due("level " + i + " of 4", x.place(i), four[i]);
        }
        check.due("4", x.grid(2), 4);
        check.due("level 1 of 2", x.place(1), 255);
        document.says("places are numbered red level * L * L + green level * L + blue level. ```");
        check.due("1 1 0 of 2", x.place(6), 0xFFFF00);
        x.grid(3);
        check.due("2 0 1 of 3", x.place(19), 0xFF007F);
        x.grid(4);
        check.due("3 1 2 of 4", x.place(54), 0xFF55AA);
    }

    private void bestSet() {
        document.says("III. BEST SET of n (1 .. 5; 4 at most, if L is 4):");
        for (int l = 2; l <= 4; l++) {
            for (int n = 0; n <= 6; n++) {
                ColoursApart x = new ColoursApart();
                x.grid(l);
                boolean taken = x.best(n) != -1;
                check.due("best(" + n + ") of L " + l, taken ? 1 : 0, n < 1 || n > 5 || n == 5 && l == 4 ? 0 : 1);
            }
        }
        document.says("n places of the GRID, upwards, for which the least APART of any two of them,"
                + " and of any of them and any FIXED COLOUR, is greatest");
        for (int fixed : new int[] {-1, 0x000000, 0x7F00FF, 0x40C080}) {
            dueBestThree(fixed);
        }
        document.says("(1 alone, without FIXED ones: 2,000,000):");
        ColoursApart x = houseOf(0, WHITE);
        check.due("FREE ones alone", x.best(1), FARTHEST);
        x.fix(0, true);
        check.due("a FIXED one", x.best(1), 195075);
        x.weights(0, 0, 0);
        check.due("a FIXED one, but all are alike", x.best(1), 0);
        document.says("of all such the first as rows.");
        x.fix(0, false);
        check.due("all are alike", x.best(3), 0);
        for (int k = 0; k < 3; k++) {
            check.due("chosen(" + k + ")", x.chosen(k), k);
        }
        x.weights(1, 1, 0);
        check.due("four corners without blue", x.best(4), 65025);
        int[] due = {0, 2, 4, 6};
        for (int k = 0; k < 4; k++) {
            check.due("chosen(" + k + ")", x.chosen(k), due[k]);
        }
    }

    /** Every three places of L 3, one after the other, in PLAIN. */
    private void dueBestThree(int fixed) {
        ColoursApart x = new ColoursApart();
        if (fixed != -1) {
            x.add(fixed, true);
        }
        int greatest = -1;
        int[] due = new int[3];
        for (int a = 0; a < 27; a++) {
            for (int b = a + 1; b < 27; b++) {
                for (int c = b + 1; c < 27; c++) {
                    int least = Math.min(squares(level3(a), level3(b)),
                            Math.min(squares(level3(a), level3(c)), squares(level3(b), level3(c))));
                    for (int p : fixed == -1 ? new int[0] : new int[] {a, b, c}) {
                        least = Math.min(least, squares(level3(p), fixed));
                    }
                    if (least > greatest) {
                        greatest = least;
                        due = new int[] {a, b, c};
                    }
                }
            }
        }
        check.due("best(3) with " + fixed, x.best(3), greatest);
        for (int k = 0; k < 3; k++) {
            check.due("chosen(" + k + ") with " + fixed, x.chosen(k), due[k]);
        }
    }

    private static int level3(int place) {
        int[] levels = {0, 127, 255};
        return levels[place / 9] * 65536 + levels[place / 3 % 3] * 256 + levels[place % 3];
    }

    private static int squares(int a, int b) {
        int sum = 0;
        for (int shift = 0; shift <= 16; shift += 8) {
            int difference = (a >> shift & 255) - (b >> shift & 255);
            sum += difference * difference;
        }
        return sum;
    }

    private void move() {
        document.says("IV. MOVE of a FREE COLOUR by a least D (1 .. 2,000,000):");
        int[] wrong = {MIN, -1, 0, FARTHEST + 1, MAX};
        for (int d : wrong) {
            ColoursApart x = houseOf(5);
            check.refused("move by " + d, x, x.move(0, d), -1);
        }
        ColoursApart x = houseOf(5);
        check.taken("1", x, x.move(0, 1), 0);
        check.taken("2,000,000", x, x.move(0, FARTHEST), 0);
        x.fix(0, true);
        check.refused("not of a FIXED one", x, x.move(0, 1), -6);
        document.says("to that place of the GRID, or where it is, of least DISTANCE in PLAIN from where it is");
        ColoursApart y = houseOf(0x102030, 0x102030);
        check.due("where it is 1 APART", y.set(1, 0x102031), 0x102030);
        check.due("where it is", y.move(1, 1), 0);
        check.due("black is nearest", y.move(1, 2), 16 * 16 + 32 * 32 + 49 * 49);
        check.due("black", y.of(1, 0), 0);
        ColoursApart z = houseOf(0xE01080, 0xE01081);
        z.sights(16);
        check.due("magenta is 675 APART in GREY, red 588 and farther in PLAIN", z.move(1, 600), 31 * 31 + 16 * 16 + 126 * 126);
        check.due("magenta", z.of(1, 0), 0xFF00FF);
        document.says("(of those alike itself, then the lower place),");
        ColoursApart w = houseOf(0, 0x0000FF);
        w.weights(0, 0, 1);
        check.due("cyan is as near as itself", w.move(1, 1), 0);
        check.due("itself", w.of(1, 0), 0x0000FF);
        w.set(1, 0x00FF00);
        check.due("blue, cyan, magenta, white are alike", w.move(1, 1), 65025);
        check.due("blue", w.of(1, 0), 0x0000FF);
    }

    private void moveSuits() {
        document.says("which is APART by D at least from all others of the HOUSE, in its NAME's box,"
                + " and meets the CONTRASTS of its PAIRS.");
        ColoursApart x = houseOf(0x000010, 0x0000F0, 0x000018);
        check.due("black is 256 APART", x.move(2, 256), 24 * 24);
        x.set(2, 0x000018);
        check.due("blue is 225 APART, green is farther", x.move(2, 257), 65025 + 24 * 24);
        check.due("green", x.of(2, 0), 0x00FF00);
        x.set(2, 0x000018);
        x.name(2, 1);
        x.box(1, 0, 0xFF00FF);
        check.due("red is as far, and in the box", x.move(2, 257), 65025 + 24 * 24);
        check.due("red", x.of(2, 0), 0xFF0000);
        x.name(2, -1);
        x.pair(2, 0, 60);
        check.due("89 / 14 meets 6", x.move(2, 257), 0);
        x.pair(2, 0, 70);
        check.due("yellow and magenta are alike: 118 / 14 meets 7", x.move(2, 257), 65025);
        check.due("magenta", x.of(2, 0), 0xFF00FF);
        x.pair(2, 0, 90);
        check.due("nor does 118 / 14 meet 9", x.move(2, 257), 65025);
        check.due("white", x.of(2, 0), WHITE);
        ColoursApart y = houseOf(0x101010, 0x000000);
        y.pair(0, 1, 100);
        check.due("of the lower one of a PAIR too: 118 / 13 is below 10, 162 / 13 is not", y.move(0, 1), 239 * 239 + 512);
        check.due("green", y.of(0, 0), 0x00FF00);
        ColoursApart z = houseOf(0x000008, 0x000009);
        z.sights(1 + 16);
        check.due("3 APART in GREY, but 1 in PLAIN", z.move(1, 2), 246 * 246);
        z.set(1, 0x000007);
        check.due("1 APART in PLAIN, but 0 in GREY", z.move(1, 1), 248 * 248);
    }

    private void settle() {
        document.says("SETTLE by D: as long as two COLOURS are APART by less than D:");
        ColoursApart x = houseOf(0x000010, 0x000018, 0x000028);
        check.due("64 is not less than 64", x.settle(64), 0);
        check.due("64 is less than 65: black is 256 APART", x.settle(65), 1);
        check.due("black", x.of(1, 0), 0);
        check.due("256 is less than 257", x.settle(257), 1);
        check.due("of blue, green, red the lower place", x.of(1, 0), 0x0000FF);
        document.says("of those two that are nearest (the first as rows, the lower first)");
        ColoursApart y = houseOf(0x000010, 0xF00010, 0xF00018, 0x000017);
        y.box(0, 0xF00018, 0xF00018);
        y.name(2, 0);
        check.due("0 and 3 are nearer than 1 and 2", y.settle(100), 1);
        check.due("3 is black", y.of(3, 0), 0);
        check.due("2 has no place", y.stuck(), 1);
        y.set(3, 0xF00020);
        y.name(2, -1);
        check.due("1 and 2, 2 and 3 are alike: 2 is moved", y.settle(100), 1);
        check.due("2 is red", y.of(2, 0), 0xFF0000);
        check.due("3 stays", y.of(3, 0), 0xF00020);
        document.says("the later one that is FREE is MOVED by D");
        ColoursApart z = houseOf(0x000010, 0x000012);
        check.due("of two FREE ones the later", z.settle(5), 1);
        check.due("the later", z.of(1, 0), 0);
        z.set(1, 0x000012);
        z.fix(1, true);
        check.due("the only FREE one", z.settle(5), 1);
        check.due("the lower", z.of(0, 0), 0);
        check.due("the later", z.of(1, 0), 0x000012);
    }

    private void settleEnds() {
        document.says("(if there is none, or no place: STUCK, the end; COLOURS moved so far stay).");
        ColoursApart x = houseOf(0x000010, 0x000012, 0x000080);
        x.fix(0, true);
        x.fix(1, true);
        check.due("no FREE one of two", x.settle(5000), 0);
        check.due("STUCK", x.stuck(), 1);
        check.due("none was moved", x.of(2, 0), 0x000080);
        ColoursApart y = houseOf(0, 0, 0, 0, 0, 0, 0, 0, 0, 0);
        check.due("eight places", y.settle(65025), 7);
        check.due("STUCK", y.stuck(), 1);
        check.due("moved so far", y.of(7, 0), WHITE);
        check.due("without a place", y.of(8, 0), 0);
    }

    private void ramp() {
        document.says("V. RAMP of two COLOURS a, b in n steps (2 .. 12):");
        ColoursApart x = new ColoursApart();
        for (int n : new int[] {MIN, 0, 1, 13, MAX}) {
            check.refused("n " + n, x, x.ramp(0, WHITE, n), -1);
        }
        for (int n = 2; n <= 12; n++) {
            check.taken("n " + n, x, x.ramp(0, WHITE, n), 255);
            check.due("the last step", x.step(n - 1), WHITE);
            check.due("behind the last step", x.step(n), -1);
        }
        document.says("on the LINE from a to b, points t 0 .. 255:"
                + " each of the three (a (255 - t) + b t + 127) / 255, cut;");
        ColoursApart y = new ColoursApart();
        check.due("LIGHT 102 at the last point alone", y.ramp(0x000000, 0x0C81C8, 3), 255);
        for (int j = 0; j < 3; j++) {
            check.due("step " + j, y.step(j), firstPoint(0x000000, 0x0C81C8, j, 2));
        }
        y.ramp(0xF01020, 0x10F0E0, 12);
        for (int j = 0; j < 12; j++) {
            check.due("step " + j, y.step(j), firstPoint(0xF01020, 0x10F0E0, j, 11));
        }
        document.says("step j is the first point whose LIGHT reaches LIGHT of a and (LIGHT of b less LIGHT of a)"
                + " times j / (n - 1), cut, more");
        ColoursApart z = new ColoursApart();
        check.due("0 to 8 in four: the last", z.ramp(0, 0x080808, 4), 240);
        int[] due = {0, 2, 5, 8};
        for (int j = 0; j < 4; j++) {
            check.due("step " + j, z.step(j), due[j] * 0x010101);
        }
        check.due("0 to 1 in three", z.ramp(0, 0x010101, 3), 128);
        check.due("step 1 is 1 / 2, cut", z.step(1), 0);
        document.says("(a darker than b; else REFUSED by -6).");
        check.refused("as dark", z, z.ramp(0x010101, 0x010101, 3), -6);
        check.refused("lighter", z, z.ramp(0x020202, 0x010101, 3), -6);
        check.refused("as dark, another COLOUR", z, z.ramp(0x000009, 0x010101, 3), -6);
        check.taken("darker by 1", z, z.ramp(0x000008, 0x010101, 3), 128);
    }

    private static int firstPoint(int a, int b, int j, int gaps) {
        ColoursApart x = new ColoursApart();
        int goal = x.light(a) + (x.light(b) - x.light(a)) * j / gaps;
        for (int t = 0; t < 256; t++) {
            int colour = 0;
            for (int shift = 16; shift >= 0; shift -= 8) {
                colour = colour * 256 + ((a >> shift & 255) * (255 - t) + (b >> shift & 255) * t + 127) / 255;
            }
            if (x.light(colour) >= goal) {
                return colour;
            }
        }
        return -1;
    }

    private void rising() {
        document.says("RISING in a SIGHT: LIGHT of what is seen is greater at each step than ahead of it.");
        ColoursApart x = weakEye(0, 0, 1000, 0, 0, 1000, 0, 0, 1000);
        x.ramp(0x0000FF, 0xFFFF00, 4);
        check.due("in PLAIN", x.rising(0), 1);
        check.due("in GREY", x.rising(4), 1);
        check.due("blue alone falls", x.rising(1), 0);
        x.ramp(0x0000FF, 0xFFFF00, 2);
        check.due("blue alone falls in two steps", x.rising(1), 0);
        x.ramp(0, 0x4000FF, 4);
        check.due("blue alone grows", x.rising(1), 1);
        x.levels(3);
        x.ramp(0, WHITE, 3);
        check.due("three of three levels", x.rising(5), 1);
        x.ramp(0, WHITE, 4);
        check.due("four of three levels: two are alike", x.rising(5), 0);
    }

    private void groups() {
        document.says("VI. GROUPS of the HOUSE in a SIGHT by D: two COLOURS whose DISTANCE there is below D"
                + " are in one GROUP;");
        ColoursApart x = houseOf(0x000040, 0x000050, 0x400000);
        check.due("256 is below 257", x.group(0, 257, 1), 0);
        check.due("256 is not below 256", x.group(0, 256, 1), 1);
        check.due("7 and 9 in GREY: 12 is below 13", x.group(4, 13, 1), 0);
        check.due("12 is not below 12", x.group(4, 12, 1), 1);
        check.due("in PRINT alike", x.group(5, 1, 1), 0);
        check.due("in PRINT 64 of red and of blue", x.group(5, 8192, 2), 2);
        document.says("so are all that are led together so.");
        ColoursApart y = houseOf(0x000030, 0x000010, 0x000020, 0x000080);
        check.due("1 by 2 to 0", y.group(0, 257, 1), 0);
        check.due("2 to 0", y.group(0, 257, 2), 0);
        check.due("3 to none", y.group(0, 257, 3), 3);
        check.due("3 by 0", y.group(0, 6401, 3), 0);
        check.due("not by 6400", y.group(0, 6400, 3), 3);
        ColoursApart z = houseOf(9, 8, 7, 6, 5, 4, 3, 2, 1, 0, 10, 11);
        for (int i = 0; i < 12; i++) {
            check.due("twelve in a row", z.group(0, 2, i), 0);
            check.due("each alone", z.group(0, 1, i), i);
        }
    }

    private void sheets() {
        document.says("SHEETS 0 .. 3, missing at first, are rows of bytes (sort 0; 0 .. 255 as they are read),"
                + " shorts (1), ints (2).");
        for (int s = -1; s <= 4; s++) {
            ColoursApart x = new ColoursApart();
            int missing = s < 0 || s > 3 ? -1 : -2;
            check.refused("missing at first", x, x.write(s, 0, 0), missing);
            check.due("there then", x.sheet(s, 0, 1), s < 0 || s > 3 ? -1 : 1);
        }
        ColoursApart bytes = new ColoursApart();
        Busy.fill(bytes, 0, 0, -56, 255, 0, 256 + 100, 0, 0, 0, 128);
        bytes.weak(2, 0, 0);
        check.due("bytes: 200 of red, 255 of green; 100 of red; 128 of green", bytes.seen(2, 0x0A0A00), 0x050101);
        ColoursApart x = new ColoursApart();
        Busy.fill(x, 1, 1, 65536 + 700, -700, 0);
        x.weak(1, 1, 0);
        check.due("shorts: 700 (100 - 40)", x.seen(1, 0x642800), 42 << 16);
        Busy.fill(x, 2, 2, 65536 + 700);
        check.due("ints", x.weak(1, 2, 0), -1);
        check.due("a fourth sort", x.sheet(0, 3, 1), -1);
        document.says("The constants: `NONE = -1`: There is none.");
        check.due("NONE", ColoursApart.NONE, -1);
        check.due("no BEST SET", x.chosen(0), ColoursApart.NONE);
    }
}
