import java.util.ArrayList;
import java.util.List;
import java.util.function.BiConsumer;

/** An object in which everything is set, and questions that bring to light all that an object holds. */
final class Busy {
    /** The looks, by number. */
    static final int EYES = 0;
    static final int SHEETS = 1;
    static final int HOUSE = 2;
    static final int BOXES = 3;
    static final int PAIRS = 4;
    static final int IMAGES = 5;
    static final int LATEST = 6;

    private static final int WHITE = 0xFFFFFF;
    private static final int[] PROBES = {0xFF0000, 0x00FF00, 0x0000FF, 0x123456, 0x9FA0A1, WHITE};
    private static final int[][] BOX_ENDS = {
        {0, WHITE}, {0, WHITE}, {0x303030, 0x505050}, {0, WHITE},
        {0x102030, 0x90A0B0}, {0x000080, 0x8080FF}, {0, WHITE}, {0x112233, WHITE}};

    /** Some of these change the object, so each is asked of an object of its own. */
    private static final List<BiConsumer<ColoursApart, List<Integer>>> LOOKS = List.of(
            Busy::lookAtEyes, Busy::lookAtSheets, Busy::lookAtHouse, Busy::lookAtBoxes,
            Busy::lookAtPairs, Busy::lookAtImages, Busy::lookAtLatest);

    private Busy() {
    }

    /**
     * Five COLOURS, of which 0 and 3 are FIXED, 2 and 3 have the NAMES 2 and 5; three PAIRS, the last one unmet;
     * SHEETS 0 (12 bytes), 1 (9 shorts), 2 (60 ints; 3001 at place 30), none at 3; IMAGES 0 and 1, none at 2;
     * L is 4; a BEST SET of three, a RAMP of five, a settle() that was STUCK.
     */
    static ColoursApart make() {
        ColoursApart x = new ColoursApart();
        makeSheets(x);
        x.add(0, true);
        x.levels(3);
        x.image(1);
        makeHouse(x);
        x.weak(1, 1, 0);
        x.weak(2, 0, 2);
        x.weights(2, 3, 4);
        x.sights(1 + 2 + 16 + 32);
        x.grid(2);
        x.image(0);
        x.levels(7);
        x.grid(4);
        x.best(3);
        x.ramp(0x000040, 0xFFFFF0, 5);
        x.settle(2000000);
        return x;
    }

    static ColoursApart withFourSheets() {
        ColoursApart x = make();
        x.sheet(3, 1, 10);
        return x;
    }

    private static void makeSheets(ColoursApart x) {
        fill(x, 0, 0, 200, 100, 3, 50, 250, 7, 1, 90, 255, 2, 30, 40);
        fill(x, 1, 1, -1000, 5, 1999, 5, 900, -5, 4, 6, 700);
        x.sheet(2, 2, 60);
        x.write(2, 0, 1000);
        x.write(2, 30, 3001);
        x.write(2, 59, -3000);
    }

    private static void makeHouse(ColoursApart x) {
        x.add(WHITE, false);
        x.add(0x404040, false);
        x.add(0x808080, true);
        x.add(0x0000FF, false);
        for (int name = 0; name < 8; name++) {
            x.box(name, BOX_ENDS[name][0], BOX_ENDS[name][1]);
        }
        x.name(2, 2);
        x.name(3, 5);
        x.pair(0, 1, 150);
        x.pair(2, 1, 30);
        x.pair(4, 0, 40);
    }

    static void fill(ColoursApart x, int s, int sort, int... numbers) {
        x.sheet(s, sort, numbers.length);
        for (int i = 0; i < numbers.length; i++) {
            x.write(s, i, numbers[i]);
        }
    }

    static int looks() {
        return LOOKS.size();
    }

    static List<Integer> look(int look, ColoursApart x) {
        List<Integer> answers = new ArrayList<>();
        LOOKS.get(look).accept(x, answers);
        return answers;
    }

    private static void lookAtEyes(ColoursApart x, List<Integer> answers) {
        for (int sight = 0; sight < 6; sight++) {
            for (int probe : PROBES) {
                answers.add(x.seen(sight, probe));
            }
        }
        answers.add(x.distance(0, 0, 0x010000));
        answers.add(x.distance(0, 0, 0x000100));
        answers.add(x.distance(0, 0, 0x000001));
        for (int p = 0; p < 65; p += 4) {
            answers.add(x.place(p));
        }
        answers.add(x.levels(5));
        answers.add(x.sights(1));
        answers.add(x.grid(3));
    }

    private static void lookAtSheets(ColoursApart x, List<Integer> answers) {
        answers.add(x.count(3));
        for (int s = 0; s < 4; s++) {
            for (int from = 0; from < 60; from += 9) {
                answers.add(x.weak(1, s, from));
                answers.add(x.seen(1, 0xFF0000));
                answers.add(x.seen(1, 0x00FF00));
                answers.add(x.seen(1, 0x0000FF));
            }
        }
        for (int s = 0; s < 4; s++) {
            for (int end : new int[] {59, 12, 9, 1}) {
                answers.add(x.write(s, end, 0));
                answers.add(x.write(s, end - 1, 0));
            }
            for (int v : new int[] {-256, 65536 + 1000, 1 << 16}) {
                answers.add(x.write(s, 0, v));
                answers.add(x.weak(1, s, 0));
                answers.add(x.seen(1, 0xFF0000));
            }
        }
    }

    private static void lookAtHouse(ColoursApart x, List<Integer> answers) {
        for (int what : new int[] {0, 1, 2, 4}) {
            answers.add(x.count(what));
        }
        answers.add(x.unmet());
        for (int i = 0; i < 13; i++) {
            for (int what = 0; what < 4; what++) {
                answers.add(x.of(i, what));
            }
            answers.add(x.group(0, 50000, i));
        }
    }

    private static void lookAtBoxes(ColoursApart x, List<Integer> answers) {
        for (int name = 0; name < 8; name++) {
            for (int step : new int[] {0, 0x010000, 0x000100, 0x000001}) {
                tryName(x, name, BOX_ENDS[name][0] - step, answers);
                tryName(x, name, BOX_ENDS[name][1] + step, answers);
            }
        }
    }

    private static void tryName(ColoursApart x, int name, int colour, List<Integer> answers) {
        x.name(1, -1);
        answers.add(x.set(1, colour));
        answers.add(x.name(1, name));
    }

    /** Black and a grey of LIGHT 182 have a CONTRAST of 15, LIGHT 64 and 218 of 3, LIGHT 39 and black of 4. */
    private static void lookAtPairs(ColoursApart x, List<Integer> answers) {
        answers.add(x.count(2));
        answers.add(x.unmet());
        x.image(2);
        tryPair(x, 1, 182, new int[][] {{2, 1}, {4, 0}}, answers);
        tryPair(x, 1, 218, new int[][] {{0, 1}, {4, 0}}, answers);
        tryPair(x, 4, 39, new int[][] {{0, 1}, {2, 1}}, answers);
    }

    private static void tryPair(ColoursApart x, int i, int light, int[][] others, List<Integer> answers) {
        x.back(2);
        for (int[] other : others) {
            answers.add(x.pair(other[0], other[1], 10));
        }
        for (int grey = light - 1; grey <= light + 1; grey++) {
            answers.add(x.set(i, grey * 0x010101));
            answers.add(x.unmet());
        }
    }

    private static void lookAtImages(ColoursApart x, List<Integer> answers) {
        for (int k = 0; k < 3; k++) {
            answers.add(x.back(k));
            lookAtHouse(x, answers);
            for (int sight = 1; sight < 6; sight++) {
                answers.add(x.seen(sight, PROBES[3]));
            }
            answers.add(x.set(1, 0x404040));
            answers.add(x.name(1, 2));
            answers.add(x.name(1, 7));
        }
    }

    private static void lookAtLatest(ColoursApart x, List<Integer> answers) {
        for (int k = -1; k < 6; k++) {
            answers.add(x.chosen(k));
        }
        for (int j = -1; j < 13; j++) {
            answers.add(x.step(j));
        }
        for (int sight = 0; sight < 6; sight++) {
            answers.add(x.rising(sight));
        }
        answers.add(x.stuck());
    }
}
