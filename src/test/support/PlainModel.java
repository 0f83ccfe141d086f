import java.math.BigInteger;
import java.util.ArrayList;
import java.util.Arrays;
import java.util.List;

/**
 * The document's terms written down a second time, as slowly and plainly as they are told:
 * nothing is kept ahead, nothing is left out of a search. Random runs are compared with it.
 */
final class PlainModel {
    private static final class State {
        List<Integer> colours = new ArrayList<>();
        List<Boolean> fixed = new ArrayList<>();
        List<Integer> names = new ArrayList<>();
        List<int[]> pairs = new ArrayList<>();
        int[][] boxes = new int[8][];
        int[][] weak = new int[4][];
        int printLevels = 5;
        int[] weights = {1, 1, 1};
        int bits = 1;
        int l = 3;

        State() {
            for (int name = 0; name < 8; name++) {
                boxes[name] = new int[] {0, 0xFFFFFF};
            }
            for (int sight = 1; sight < 4; sight++) {
                weak[sight] = new int[] {1000, 0, 0, 0, 1000, 0, 0, 0, 1000};
            }
        }

        State copy() {
            State other = new State();
            other.colours = new ArrayList<>(colours);
            other.fixed = new ArrayList<>(fixed);
            other.names = new ArrayList<>(names);
            for (int[] pair : pairs) {
                other.pairs.add(pair.clone());
            }
            for (int name = 0; name < 8; name++) {
                other.boxes[name] = boxes[name].clone();
            }
            for (int sight = 1; sight < 4; sight++) {
                other.weak[sight] = weak[sight].clone();
            }
            other.printLevels = printLevels;
            other.weights = weights.clone();
            other.bits = bits;
            other.l = l;
            return other;
        }
    }

    private State state = new State();
    private final State[] images = new State[3];
    private final int[][] sheets = new int[4][];
    private final int[] sorts = new int[4];
    private List<Integer> latestSet = new ArrayList<>();
    private List<Integer> latestRamp = new ArrayList<>();
    private int stuck = 0;
    private int status = 0;

    private int tell(int answer) {
        status = Math.min(answer, 0);
        return answer;
    }

    private static int[] parts(int colour) {
        return new int[] {colour / 65536, colour / 256 % 256, colour % 256};
    }

    private static int whole(int[] parts) {
        return parts[0] * 65536 + parts[1] * 256 + parts[2];
    }

    private static boolean colour(int c) {
        return c >= 0 && c < 256 * 256 * 256;
    }

    private boolean inHouse(int i) {
        return i >= 0 && i < state.colours.size();
    }

    int sheet(int s, int sort, int n) {
        if (s < 0 || s > 3 || sort < 0 || sort > 2 || n > 60) {
            return tell(-1);
        }
        sheets[s] = n < 0 ? null : new int[n];
        sorts[s] = sort;
        return tell(n < 0 ? -4 : n);
    }

    int write(int s, int i, int v) {
        if (s < 0 || s > 3) {
            return tell(-1);
        }
        if (sheets[s] == null) {
            return tell(-2);
        }
        if (i < 0 || i >= sheets[s].length) {
            return tell(-3);
        }
        sheets[s][i] = sorts[s] == 0 ? Byte.toUnsignedInt((byte) v) : sorts[s] == 1 ? (short) v : v;
        return tell(0);
    }

    int weak(int sight, int s, int from) {
        if (sight < 1 || sight > 3 || s < 0 || s > 3 || from < 0) {
            return tell(-1);
        }
        if (sheets[s] == null) {
            return tell(-2);
        }
        int[] numbers = new int[9];
        for (long k = 0; k < 9; k++) {
            long at = from + k;
            numbers[(int) k] = at < sheets[s].length ? sheets[s][(int) at] : 0;
        }
        for (int number : numbers) {
            if (number < -3000 || number > 3000) {
                return tell(-1);
            }
        }
        state.weak[sight] = numbers;
        return tell(0);
    }

    int levels(int n) {
        if (n < 2 || n > 16) {
            return tell(-1);
        }
        int before = state.printLevels;
        state.printLevels = n;
        return tell(before);
    }

    int weights(int red, int green, int blue) {
        if (Math.min(red, Math.min(green, blue)) < 0 || Math.max(red, Math.max(green, blue)) > 10) {
            return tell(-1);
        }
        state.weights = new int[] {red, green, blue};
        return tell(0);
    }

    int sights(int bits) {
        if (bits < 1 || bits > 63) {
            return tell(-1);
        }
        int before = state.bits;
        state.bits = bits;
        return tell(before);
    }

    int grid(int l) {
        if (l < 2 || l > 4) {
            return tell(-1);
        }
        int before = state.l;
        state.l = l;
        return tell(before);
    }

    int place(int p) {
        int at = 0;
        for (int red = 0; red < state.l; red++) {
            for (int green = 0; green < state.l; green++) {
                for (int blue = 0; blue < state.l; blue++) {
                    if (at++ == p) {
                        int gaps = state.l - 1;
                        return whole(new int[] {red * 255 / gaps, green * 255 / gaps, blue * 255 / gaps});
                    }
                }
            }
        }
        return -1;
    }

    private int nearestLevel(int number) {
        int n = state.printLevels;
        int found = 0;
        for (int i = 1; i < n; i++) {
            int level = (i * 255 + (n - 1) / 2) / (n - 1);
            if (Math.abs(level - number) < Math.abs(found - number)) {
                found = level;
            }
        }
        return found;
    }

    int seen(int sight, int c) {
        if (sight < 0 || sight > 5 || !colour(c)) {
            return -1;
        }
        int[] from = parts(c);
        int[] to = from.clone();
        for (int k = 0; k < 3; k++) {
            if (sight >= 1 && sight <= 3) {
                double sum = 500;
                for (int m = 0; m < 3; m++) {
                    sum += state.weak[sight][k * 3 + m] * from[m];
                }
                to[k] = (int) Math.max(0, Math.min(255, Math.floor(sum / 1000)));
            } else if (sight == 4) {
                to[k] = light(c);
            } else if (sight == 5) {
                to[k] = nearestLevel(from[k]);
            }
        }
        return whole(to);
    }

    int light(int c) {
        if (!colour(c)) {
            return -1;
        }
        int[] p = parts(c);
        return (299 * p[0] + 587 * p[1] + 114 * p[2]) / 1000;
    }

    int distance(int sight, int a, int b) {
        int seenA = seen(sight, a);
        int seenB = seen(sight, b);
        if (seenA == -1 || seenB == -1) {
            return -1;
        }
        int sum = 0;
        for (int k = 0; k < 3; k++) {
            int difference = parts(seenA)[k] - parts(seenB)[k];
            sum += state.weights[k] * difference * difference;
        }
        return sum;
    }

    int apart(int a, int b) {
        if (!colour(a) || !colour(b)) {
            return -1;
        }
        List<Integer> all = new ArrayList<>();
        for (int sight = 0; sight < 6; sight++) {
            if ((state.bits & 1 << sight) != 0) {
                all.add(distance(sight, a, b));
            }
        }
        return all.stream().min(Integer::compare).get();
    }

    int add(int c, boolean fixed) {
        if (!colour(c)) {
            return tell(-1);
        }
        if (state.colours.size() == 12) {
            return tell(-5);
        }
        state.colours.add(c);
        state.fixed.add(fixed);
        state.names.add(-1);
        return tell(state.colours.size() - 1);
    }

    private static boolean inside(int c, int[] box) {
        for (int k = 0; k < 3; k++) {
            if (parts(c)[k] < parts(box[0])[k] || parts(c)[k] > parts(box[1])[k]) {
                return false;
            }
        }
        return true;
    }

    private boolean named(int i, int c) {
        return state.names.get(i) == -1 || inside(c, state.boxes[state.names.get(i)]);
    }

    int set(int i, int c) {
        if (!colour(c) || inHouse(i) && !named(i, c)) {
            return tell(-1);
        }
        if (!inHouse(i)) {
            return tell(-2);
        }
        return tell(state.fixed.get(i) ? -6 : state.colours.set(i, c));
    }

    int fix(int i, boolean is) {
        if (!inHouse(i)) {
            return tell(-2);
        }
        state.fixed.set(i, is);
        return tell(0);
    }

    int name(int i, int name) {
        if (name < -1 || name > 7 || inHouse(i) && name != -1 && !inside(state.colours.get(i), state.boxes[name])) {
            return tell(-1);
        }
        if (!inHouse(i)) {
            return tell(-2);
        }
        state.names.set(i, name);
        return tell(0);
    }

    int box(int name, int from, int to) {
        if (name < 0 || name > 7 || !colour(from) || !colour(to)) {
            return tell(-1);
        }
        for (int k = 0; k < 3; k++) {
            if (parts(from)[k] > parts(to)[k]) {
                return tell(-1);
            }
        }
        for (int i = 0; i < state.colours.size(); i++) {
            if (state.names.get(i) == name && !inside(state.colours.get(i), new int[] {from, to})) {
                return tell(-1);
            }
        }
        state.boxes[name] = new int[] {from, to};
        return tell(0);
    }

    int pair(int i, int k, int c) {
        if (i == k || c < 10 || c > 210) {
            return tell(-1);
        }
        if (!inHouse(i) || !inHouse(k)) {
            return tell(-2);
        }
        for (int[] pair : state.pairs) {
            if (pair[0] == i && pair[1] == k || pair[0] == k && pair[1] == i) {
                pair[2] = c;
                return tell(state.pairs.size());
            }
        }
        if (state.pairs.size() == 20) {
            return tell(-5);
        }
        state.pairs.add(new int[] {i, k, c});
        return tell(state.pairs.size());
    }

    int contrast(int a, int b, int what) {
        if (!colour(a) || !colour(b) || what < 0 || what > 1) {
            return -1;
        }
        int upper = Math.max(light(a), light(b)) + 13;
        int lower = Math.min(light(a), light(b)) + 13;
        int common = BigInteger.valueOf(upper).gcd(BigInteger.valueOf(lower)).intValue();
        return (what == 0 ? upper : lower) / common;
    }

    private boolean meets(int a, int b, int c) {
        return contrast(a, b, 0) * 10 >= contrast(a, b, 1) * c;
    }

    int unmet() {
        for (int p = 0; p < state.pairs.size(); p++) {
            int[] pair = state.pairs.get(p);
            if (!meets(state.colours.get(pair[0]), state.colours.get(pair[1]), pair[2])) {
                return p;
            }
        }
        return -1;
    }

    int of(int i, int what) {
        if (!inHouse(i)) {
            return -2;
        }
        if (what == 3) {
            int least = Integer.MAX_VALUE;
            for (int k = 0; k < state.colours.size(); k++) {
                if (k != i) {
                    least = Math.min(least, apart(state.colours.get(i), state.colours.get(k)));
                }
            }
            return least == Integer.MAX_VALUE ? -1 : least;
        }
        return what == 0 ? state.colours.get(i) : what == 1 ? (state.fixed.get(i) ? 1 : 0)
                : what == 2 ? state.names.get(i) : -1;
    }

    private int leastOf(List<Integer> set, int[][] table, int[] alone) {
        int least = 2000000;
        for (int i = 0; i < set.size(); i++) {
            least = Math.min(least, alone[set.get(i)]);
            for (int k = i + 1; k < set.size(); k++) {
                least = Math.min(least, table[set.get(i)][set.get(k)]);
            }
        }
        return least;
    }

    private static boolean nextRow(int[] row, int places) {
        int at = row.length - 1;
        while (at >= 0 && row[at] == places - row.length + at) {
            at--;
        }
        if (at < 0) {
            return false;
        }
        row[at]++;
        for (int k = at + 1; k < row.length; k++) {
            row[k] = row[k - 1] + 1;
        }
        return true;
    }

    int best(int n) {
        if (n < 1 || n > 5 || n > 4 && state.l == 4) {
            return tell(-1);
        }
        int places = state.l * state.l * state.l;
        int[][] table = new int[places][places];
        int[] alone = new int[places];
        for (int p = 0; p < places; p++) {
            alone[p] = 2000000;
            for (int i = 0; i < state.colours.size(); i++) {
                if (state.fixed.get(i)) {
                    alone[p] = Math.min(alone[p], apart(place(p), state.colours.get(i)));
                }
            }
            for (int q = 0; q < places; q++) {
                table[p][q] = apart(place(p), place(q));
            }
        }
        int[] row = new int[n];
        for (int k = 0; k < n; k++) {
            row[k] = k;
        }
        int greatest = -1;
        do {
            List<Integer> set = Arrays.stream(row).boxed().toList();
            int least = leastOf(set, table, alone);
            if (least > greatest) {
                greatest = least;
                latestSet = set;
            }
        } while (nextRow(row, places));
        return tell(greatest);
    }

    int chosen(int k) {
        return k >= 0 && k < latestSet.size() ? latestSet.get(k) : -1;
    }

    private boolean suits(int i, int c, int d) {
        for (int k = 0; k < state.colours.size(); k++) {
            if (k != i && apart(c, state.colours.get(k)) < d) {
                return false;
            }
        }
        for (int[] pair : state.pairs) {
            if (pair[0] == i && !meets(c, state.colours.get(pair[1]), pair[2])
                    || pair[1] == i && !meets(state.colours.get(pair[0]), c, pair[2])) {
                return false;
            }
        }
        return named(i, c);
    }

    /** The DISTANCE moved, or -6. */
    private int shifted(int i, int d) {
        if (state.fixed.get(i)) {
            return -6;
        }
        int from = state.colours.get(i);
        List<Integer> candidates = new ArrayList<>();
        candidates.add(from);
        for (int p = 0; p < state.l * state.l * state.l; p++) {
            candidates.add(place(p));
        }
        candidates.removeIf(c -> !suits(i, c, d));
        if (candidates.isEmpty()) {
            return -6;
        }
        candidates.sort((a, b) -> Integer.compare(distance(0, from, a), distance(0, from, b)));
        state.colours.set(i, candidates.get(0));
        return distance(0, from, candidates.get(0));
    }

    int move(int i, int d) {
        if (d < 1 || d > 2000000) {
            return tell(-1);
        }
        return tell(inHouse(i) ? shifted(i, d) : -2);
    }

    int settle(int d) {
        if (d < 1 || d > 2000000) {
            return tell(-1);
        }
        stuck = 0;
        int moves = 0;
        while (true) {
            int[] two = null;
            for (int i = 0; i < state.colours.size(); i++) {
                for (int k = i + 1; k < state.colours.size(); k++) {
                    int between = apart(state.colours.get(i), state.colours.get(k));
                    if (between < d && (two == null || between < two[2])) {
                        two = new int[] {i, k, between};
                    }
                }
            }
            if (two == null) {
                return tell(moves);
            }
            int which = state.fixed.get(two[1]) ? two[0] : two[1];
            if (shifted(which, d) < 0) {
                stuck = 1;
                return tell(moves);
            }
            moves++;
        }
    }

    int stuck() {
        return stuck;
    }

    int ramp(int a, int b, int n) {
        if (!colour(a) || !colour(b) || n < 2 || n > 12) {
            return tell(-1);
        }
        if (light(a) >= light(b)) {
            return tell(-6);
        }
        latestRamp = new ArrayList<>();
        int last = -1;
        for (int j = 0; j < n; j++) {
            int goal = light(a) + (light(b) - light(a)) * j / (n - 1);
            int t = 0;
            while (light(point(a, b, t)) < goal) {
                t++;
            }
            latestRamp.add(point(a, b, t));
            last = t;
        }
        return tell(last);
    }

    private static int point(int a, int b, int t) {
        int[] mixed = new int[3];
        for (int k = 0; k < 3; k++) {
            mixed[k] = (parts(a)[k] * (255 - t) + parts(b)[k] * t + 127) / 255;
        }
        return whole(mixed);
    }

    int step(int j) {
        return j >= 0 && j < latestRamp.size() ? latestRamp.get(j) : -1;
    }

    int rising(int sight) {
        if (sight < 0 || sight > 5 || latestRamp.isEmpty()) {
            return -1;
        }
        for (int j = 1; j < latestRamp.size(); j++) {
            if (light(seen(sight, latestRamp.get(j))) <= light(seen(sight, latestRamp.get(j - 1)))) {
                return 0;
            }
        }
        return 1;
    }

    int group(int sight, int d, int i) {
        if (sight < 0 || sight > 5 || d < 0 || d > 2000000) {
            return -1;
        }
        if (!inHouse(i)) {
            return -2;
        }
        int size = state.colours.size();
        int[] label = new int[size];
        for (int k = 0; k < size; k++) {
            label[k] = k;
        }
        for (int turn = 0; turn < size; turn++) {
            for (int a = 0; a < size; a++) {
                for (int b = 0; b < size; b++) {
                    if (distance(sight, state.colours.get(a), state.colours.get(b)) < d) {
                        label[a] = Math.min(label[a], label[b]);
                    }
                }
            }
        }
        return label[i];
    }

    int image(int k) {
        if (k < 0 || k > 2) {
            return tell(-1);
        }
        images[k] = state.copy();
        return tell(0);
    }

    int back(int k) {
        if (k < 0 || k > 2) {
            return tell(-1);
        }
        if (images[k] == null) {
            return tell(-6);
        }
        state = images[k].copy();
        return tell(0);
    }

    int count(int what) {
        switch (what) {
            case 0: return state.colours.size();
            case 1: return (int) state.fixed.stream().filter(f -> f).count();
            case 2: return state.pairs.size();
            case 3: return (int) Arrays.stream(sheets).filter(s -> s != null).count();
            case 4: return state.l * state.l * state.l;
            default: return -1;
        }
    }

    int status() {
        return status;
    }
}
