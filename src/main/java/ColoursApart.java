/** A chooser of colours that stay apart; ../shared/DOC.md has its promises. */
public final class ColoursApart {
    public static final int NONE = -1;

    private static final int BAD_NUMBER = -1;
    private static final int MISSING = -2;
    private static final int NO_SUCH_PLACE = -3;
    private static final int BAD_LENGTH = -4;
    private static final int NO_ROOM = -5;
    private static final int NOT_TO_BE_HAD = -6;

    private static final int SIGHTS = 6;
    private static final int WEAK_SIGHTS = 3;
    private static final int GREY = 4;
    private static final int PRINT = 5;
    private static final int FARTHEST = 2000000;
    private static final int MOST_COLOURS = 12;
    private static final int MOST_NAMES = 8;
    private static final int MOST_PAIRS = 20;
    private static final int MOST_SHEETS = 4;
    private static final int MOST_IMAGES = 3;

    private final Kept now = new Kept();
    private final Kept[] images = new Kept[MOST_IMAGES];
    private final boolean[] imageKept = new boolean[MOST_IMAGES];
    private final Sheet[] sheets = new Sheet[MOST_SHEETS];
    private final Chooser chooser = new Chooser();
    private final Mover mover = new Mover();
    private final Ramp latestRamp = new Ramp();
    private final Groups groups = new Groups();
    private int refusedBy = 0;

    public ColoursApart() {
        for (int k = 0; k < MOST_IMAGES; k++) {
            images[k] = new Kept();
        }
        for (int s = 0; s < MOST_SHEETS; s++) {
            sheets[s] = new Sheet();
        }
    }

    public int sheet(int s, int sort, int n) {
        if (!isSheet(s) || sort < 0 || sort > Sheet.INTS || n > Sheet.MOST_NUMBERS) {
            return refused(BAD_NUMBER);
        }
        if (n < 0) {
            sheets[s].takeAway();
            return refused(BAD_LENGTH);
        }
        sheets[s].layOut(sort, n);
        return taken(n);
    }

    public int write(int s, int i, int v) {
        if (!isSheet(s)) {
            return refused(BAD_NUMBER);
        }
        if (!sheets[s].isThere()) {
            return refused(MISSING);
        }
        if (!sheets[s].has(i)) {
            return refused(NO_SUCH_PLACE);
        }
        sheets[s].put(i, v);
        return taken(0);
    }

    public int weak(int sight, int s, int from) {
        if (sight < 1 || sight > WEAK_SIGHTS || !isSheet(s) || from < 0) {
            return refused(BAD_NUMBER);
        }
        if (!sheets[s].isThere()) {
            return refused(MISSING);
        }
        if (!Eyes.areWeakNumbers(sheets[s], from)) {
            return refused(BAD_NUMBER);
        }
        now.eyes.weaken(sight, sheets[s], from);
        return taken(0);
    }

    public int levels(int n) {
        if (n < 2 || n > Eyes.MOST_LEVELS) {
            return refused(BAD_NUMBER);
        }
        int before = now.eyes.printLevels;
        now.eyes.printLevels = n;
        return taken(before);
    }

    public int weights(int red, int green, int blue) {
        if (!Eyes.isWeight(red) || !Eyes.isWeight(green) || !Eyes.isWeight(blue)) {
            return refused(BAD_NUMBER);
        }
        now.eyes.redWeight = red;
        now.eyes.greenWeight = green;
        now.eyes.blueWeight = blue;
        return taken(0);
    }

    public int sights(int bits) {
        if (bits < 1 || bits >= 1 << SIGHTS) {
            return refused(BAD_NUMBER);
        }
        int before = now.eyes.counting;
        now.eyes.counting = bits;
        return taken(before);
    }

    public int grid(int l) {
        if (l < 2 || l > Grid.MOST_LEVELS) {
            return refused(BAD_NUMBER);
        }
        int before = now.mesh.perChannel;
        now.mesh.perChannel = l;
        return taken(before);
    }

    public int place(int p) {
        return p >= 0 && p < now.mesh.places() ? now.mesh.colourAt(p) : NONE;
    }

    public int seen(int sight, int colour) {
        return isSight(sight) && Rgb.isColour(colour) ? now.eyes.look(sight, colour) : NONE;
    }

    public int light(int colour) {
        return Rgb.isColour(colour) ? Rgb.lightOf(colour) : NONE;
    }

    public int distance(int sight, int a, int b) {
        if (!isSight(sight) || !Rgb.isColour(a) || !Rgb.isColour(b)) {
            return NONE;
        }
        return now.eyes.weighed(now.eyes.look(sight, a), now.eyes.look(sight, b));
    }

    public int apart(int a, int b) {
        return Rgb.isColour(a) && Rgb.isColour(b) ? now.eyes.leastDistance(a, b) : NONE;
    }

    public int add(int colour, boolean fixed) {
        if (!Rgb.isColour(colour)) {
            return refused(BAD_NUMBER);
        }
        if (now.house.size >= MOST_COLOURS) {
            return refused(NO_ROOM);
        }
        return taken(now.house.takeIn(colour, fixed));
    }

    public int set(int i, int colour) {
        boolean there = now.house.has(i);
        if (!Rgb.isColour(colour) || there && !now.house.nameAllows(i, colour)) {
            return refused(BAD_NUMBER);
        }
        if (!there) {
            return refused(MISSING);
        }
        if (now.house.fixed[i]) {
            return refused(NOT_TO_BE_HAD);
        }
        int before = now.house.colours[i];
        now.house.colours[i] = colour;
        return taken(before);
    }

    public int fix(int i, boolean is) {
        if (!now.house.has(i)) {
            return refused(MISSING);
        }
        now.house.fixed[i] = is;
        return taken(0);
    }

    public int name(int i, int name) {
        if (name != NONE && !isName(name)) {
            return refused(BAD_NUMBER);
        }
        if (!now.house.has(i)) {
            return refused(MISSING);
        }
        if (name != NONE && !now.house.boxHolds(name, now.house.colours[i])) {
            return refused(BAD_NUMBER);
        }
        now.house.names[i] = name;
        return taken(0);
    }

    public int box(int name, int from, int to) {
        if (!isName(name) || !Rgb.isColour(from) || !Rgb.isColour(to)
                || !Rgb.isBetween(from, from, to) || now.house.wouldLeaveOut(name, from, to)) {
            return refused(BAD_NUMBER);
        }
        now.house.boxFrom[name] = from;
        now.house.boxTo[name] = to;
        return taken(0);
    }

    public int pair(int i, int k, int c) {
        if (i == k || c < 10 || c > 210) {
            return refused(BAD_NUMBER);
        }
        if (!now.house.has(i) || !now.house.has(k)) {
            return refused(MISSING);
        }
        if (!now.house.bind(Math.min(i, k), Math.max(i, k), c)) {
            return refused(NO_ROOM);
        }
        return taken(now.house.pairs);
    }

    public int contrast(int a, int b, int what) {
        if (!Rgb.isColour(a) || !Rgb.isColour(b) || what < 0 || what > 1) {
            return NONE;
        }
        int upper = Math.max(Rgb.lightOf(a), Rgb.lightOf(b)) + Rgb.CONTRAST_BASE;
        int lower = Math.min(Rgb.lightOf(a), Rgb.lightOf(b)) + Rgb.CONTRAST_BASE;
        int divisor = commonDivisor(upper, lower);
        return (what == 0 ? upper : lower) / divisor;
    }

    public int unmet() {
        for (int p = 0; p < now.house.pairs; p++) {
            if (!now.house.isMet(p)) {
                return p;
            }
        }
        return NONE;
    }

    public int of(int i, int what) {
        if (!now.house.has(i)) {
            return MISSING;
        }
        switch (what) {
            case 0:
                return now.house.colours[i];
            case 1:
                return now.house.fixed[i] ? 1 : 0;
            case 2:
                return now.house.names[i];
            case 3:
                return now.leastFromOthers(i);
            default:
                return BAD_NUMBER;
        }
    }

    public int best(int n) {
        int most = now.mesh.perChannel == Grid.MOST_LEVELS ? Chooser.MOST_CHOSEN - 1 : Chooser.MOST_CHOSEN;
        if (n < 1 || n > most) {
            return refused(BAD_NUMBER);
        }
        return taken(chooser.choose(now, n));
    }

    public int chosen(int k) {
        return chooser.placeAt(k);
    }

    public int move(int i, int d) {
        if (!isLeastDistance(d)) {
            return refused(BAD_NUMBER);
        }
        if (!now.house.has(i)) {
            return refused(MISSING);
        }
        int away = now.house.fixed[i] ? NONE : mover.moveOne(now, i, d);
        return away == NONE ? refused(NOT_TO_BE_HAD) : taken(away);
    }

    public int settle(int d) {
        return isLeastDistance(d) ? taken(mover.moveAll(now, d)) : refused(BAD_NUMBER);
    }

    public int stuck() {
        return mover.endedStuck ? 1 : 0;
    }

    public int ramp(int a, int b, int n) {
        if (!Rgb.isColour(a) || !Rgb.isColour(b) || n < 2 || n > Ramp.MOST_STEPS) {
            return refused(BAD_NUMBER);
        }
        if (Rgb.lightOf(a) >= Rgb.lightOf(b)) {
            return refused(NOT_TO_BE_HAD);
        }
        return taken(latestRamp.climb(a, b, n));
    }

    public int step(int j) {
        return latestRamp.colourAt(j);
    }

    public int rising(int sight) {
        if (!isSight(sight) || latestRamp.steps == 0) {
            return NONE;
        }
        return latestRamp.growsFor(now.eyes, sight) ? 1 : 0;
    }

    public int group(int sight, int d, int i) {
        if (!isSight(sight) || d < 0 || d > FARTHEST) {
            return BAD_NUMBER;
        }
        return now.house.has(i) ? groups.lowestWith(now, sight, d, i) : MISSING;
    }

    public int image(int k) {
        if (!isImage(k)) {
            return refused(BAD_NUMBER);
        }
        images[k].copyFrom(now);
        imageKept[k] = true;
        return taken(0);
    }

    public int back(int k) {
        if (!isImage(k)) {
            return refused(BAD_NUMBER);
        }
        if (!imageKept[k]) {
            return refused(NOT_TO_BE_HAD);
        }
        now.copyFrom(images[k]);
        return taken(0);
    }

    public int count(int what) {
        switch (what) {
            case 0:
                return now.house.size;
            case 1:
                return now.house.fixedOnes();
            case 2:
                return now.house.pairs;
            case 3:
                return sheetsThere();
            case 4:
                return now.mesh.places();
            default:
                return NONE;
        }
    }

    public int status() {
        return refusedBy;
    }

    private int refused(int why) {
        refusedBy = why;
        return why;
    }

    private int taken(int answer) {
        refusedBy = 0;
        return answer;
    }

    private int sheetsThere() {
        int there = 0;
        for (int s = 0; s < MOST_SHEETS; s++) {
            if (sheets[s].isThere()) {
                there++;
            }
        }
        return there;
    }

    private static boolean isSheet(int s) {
        return s >= 0 && s < MOST_SHEETS;
    }

    private static boolean isSight(int sight) {
        return sight >= 0 && sight < SIGHTS;
    }

    private static boolean isName(int name) {
        return name >= 0 && name < MOST_NAMES;
    }

    private static boolean isImage(int k) {
        return k >= 0 && k < MOST_IMAGES;
    }

    private static boolean isLeastDistance(int d) {
        return d >= 1 && d <= FARTHEST;
    }

    /** Both are 13 at least; Euclid's steps on numbers up to 268 are far fewer than 32. */
    private static int commonDivisor(int a, int b) {
        int greater = a;
        int lesser = b;
        for (int turn = 0; turn < 32 && lesser != 0; turn++) {
            int rest = greater % lesser;
            greater = lesser;
            lesser = rest;
        }
        return Math.max(1, greater);
    }

    /** COLOURS as one int: red 65536 + green 256 + blue. */
    private static final class Rgb {
        private static final int WHITE = 0xFFFFFF;
        private static final int CONTRAST_BASE = 13;

        static boolean isColour(int colour) {
            return colour >= 0 && colour <= WHITE;
        }

        static int red(int colour) {
            return colour >> 16 & 255;
        }

        static int green(int colour) {
            return colour >> 8 & 255;
        }

        static int blue(int colour) {
            return colour & 255;
        }

        static int joined(int red, int green, int blue) {
            return red << 16 | green << 8 | blue;
        }

        static int lightOf(int colour) {
            return (299 * red(colour) + 587 * green(colour) + 114 * blue(colour)) / 1000;
        }

        static boolean contrastReaches(int a, int b, int tenths) {
            int lightA = lightOf(a) + CONTRAST_BASE;
            int lightB = lightOf(b) + CONTRAST_BASE;
            return 10 * Math.max(lightA, lightB) >= tenths * Math.min(lightA, lightB);
        }

        static boolean isBetween(int colour, int from, int to) {
            return red(from) <= red(colour) && red(colour) <= red(to)
                    && green(from) <= green(colour) && green(colour) <= green(to)
                    && blue(from) <= blue(colour) && blue(colour) <= blue(to);
        }
    }

    /** A row of numbers, which is there or missing. */
    private static final class Sheet {
        private static final int MOST_NUMBERS = 60;
        private static final int BYTES = 0;
        private static final int SHORTS = 1;
        private static final int INTS = 2;

        private final int[] numbers = new int[MOST_NUMBERS];
        private int kind = INTS;
        private int length = NONE;

        void layOut(int sort, int n) {
            kind = sort;
            length = n;
            for (int i = 0; i < MOST_NUMBERS; i++) {
                numbers[i] = 0;
            }
        }

        void takeAway() {
            length = NONE;
        }

        boolean isThere() {
            return length != NONE;
        }

        boolean has(int i) {
            return i >= 0 && i < length;
        }

        void put(int i, int v) {
            if (kind == BYTES) {
                numbers[i] = v & 255;
            } else if (kind == SHORTS) {
                numbers[i] = (short) v;
            } else {
                numbers[i] = v;
            }
        }

        /** i may have wrapped around below 0, where nothing is either. */
        int numberOrZero(int i) {
            return has(i) ? numbers[i] : 0;
        }
    }

    /** What SIGHTS see and which of them COUNT. */
    private static final class Eyes {
        private static final int MOST_LEVELS = 16;
        private static final int MOST_WEIGHT = 10;
        private static final int WEAK_NUMBERS = 9;
        private static final int WEAK_LIMIT = 3000;
        private static final int WHOLE = 1000;

        private final int[] weakNumbers = new int[WEAK_SIGHTS * WEAK_NUMBERS];
        private int printLevels = 5;
        private int redWeight = 1;
        private int greenWeight = 1;
        private int blueWeight = 1;
        private int counting = 1;

        Eyes() {
            for (int w = 0; w < WEAK_SIGHTS; w++) {
                for (int channel = 0; channel < 3; channel++) {
                    weakNumbers[w * WEAK_NUMBERS + channel * 4] = WHOLE;
                }
            }
        }

        static boolean isWeight(int weight) {
            return weight >= 0 && weight <= MOST_WEIGHT;
        }

        static boolean areWeakNumbers(Sheet sheet, int from) {
            for (int i = 0; i < WEAK_NUMBERS; i++) {
                int number = sheet.numberOrZero(from + i);
                if (number < -WEAK_LIMIT || number > WEAK_LIMIT) {
                    return false;
                }
            }
            return true;
        }

        void weaken(int sight, Sheet sheet, int from) {
            for (int i = 0; i < WEAK_NUMBERS; i++) {
                weakNumbers[(sight - 1) * WEAK_NUMBERS + i] = sheet.numberOrZero(from + i);
            }
        }

        void copyFrom(Eyes other) {
            System.arraycopy(other.weakNumbers, 0, weakNumbers, 0, weakNumbers.length);
            printLevels = other.printLevels;
            redWeight = other.redWeight;
            greenWeight = other.greenWeight;
            blueWeight = other.blueWeight;
            counting = other.counting;
        }

        int look(int sight, int colour) {
            if (sight >= 1 && sight <= WEAK_SIGHTS) {
                int row = (sight - 1) * WEAK_NUMBERS;
                return Rgb.joined(weakened(row, colour), weakened(row + 3, colour), weakened(row + 6, colour));
            }
            if (sight == GREY) {
                int light = Rgb.lightOf(colour);
                return Rgb.joined(light, light, light);
            }
            if (sight == PRINT) {
                return Rgb.joined(printed(Rgb.red(colour)), printed(Rgb.green(colour)), printed(Rgb.blue(colour)));
            }
            return colour;
        }

        private int weakened(int at, int colour) {
            int sum = weakNumbers[at] * Rgb.red(colour)
                    + weakNumbers[at + 1] * Rgb.green(colour)
                    + weakNumbers[at + 2] * Rgb.blue(colour);
            return Math.max(0, Math.min(255, Math.floorDiv(sum + WHOLE / 2, WHOLE)));
        }

        /** Levels rise, so the nearest is one of the two that enclose the number. */
        private int printed(int number) {
            int gaps = printLevels > 1 ? printLevels - 1 : 1;
            int below = number * gaps / 255;
            int above = below < gaps ? below + 1 : gaps;
            int lower = (below * 255 + gaps / 2) / gaps;
            int upper = (above * 255 + gaps / 2) / gaps;
            return number - lower <= upper - number ? lower : upper;
        }

        boolean counts(int sight) {
            return (counting >> sight & 1) == 1;
        }

        /** DISTANCE of what is seen. */
        int weighed(int seenA, int seenB) {
            int red = Rgb.red(seenA) - Rgb.red(seenB);
            int green = Rgb.green(seenA) - Rgb.green(seenB);
            int blue = Rgb.blue(seenA) - Rgb.blue(seenB);
            return redWeight * red * red + greenWeight * green * green + blueWeight * blue * blue;
        }

        /** APART of two COLOURS. */
        int leastDistance(int a, int b) {
            int least = FARTHEST;
            for (int sight = 0; sight < SIGHTS; sight++) {
                if (counts(sight)) {
                    least = Math.min(least, weighed(look(sight, a), look(sight, b)));
                }
            }
            return least;
        }

        /** Puts what each SIGHT that COUNTS sees of a COLOUR into row number `row` of views. */
        void lookWithAll(int colour, int[] views, int row) {
            for (int sight = 0; sight < SIGHTS; sight++) {
                if (counts(sight)) {
                    views[row * SIGHTS + sight] = look(sight, colour);
                }
            }
        }

        /** APART of two COLOURS that lookWithAll has looked at. */
        int leastOfViews(int[] viewsA, int rowA, int[] viewsB, int rowB) {
            int least = FARTHEST;
            for (int sight = 0; sight < SIGHTS; sight++) {
                if (counts(sight)) {
                    int between = weighed(viewsA[rowA * SIGHTS + sight], viewsB[rowB * SIGHTS + sight]);
                    least = Math.min(least, between);
                }
            }
            return least;
        }
    }

    /** COLOURS of the HOUSE, the boxes of NAMES, and PAIRS. */
    private static final class House {
        private int size = 0;
        private final int[] colours = new int[MOST_COLOURS];
        private final boolean[] fixed = new boolean[MOST_COLOURS];
        private final int[] names = new int[MOST_COLOURS];
        private final int[] boxFrom = new int[MOST_NAMES];
        private final int[] boxTo = new int[MOST_NAMES];
        private int pairs = 0;
        private final int[] pairLower = new int[MOST_PAIRS];
        private final int[] pairHigher = new int[MOST_PAIRS];
        private final int[] pairTenths = new int[MOST_PAIRS];

        House() {
            for (int name = 0; name < MOST_NAMES; name++) {
                boxTo[name] = Rgb.WHITE;
            }
        }

        void copyFrom(House other) {
            size = other.size;
            for (int i = 0; i < MOST_COLOURS; i++) {
                colours[i] = other.colours[i];
                fixed[i] = other.fixed[i];
                names[i] = other.names[i];
            }
            System.arraycopy(other.boxFrom, 0, boxFrom, 0, MOST_NAMES);
            System.arraycopy(other.boxTo, 0, boxTo, 0, MOST_NAMES);
            pairs = other.pairs;
            System.arraycopy(other.pairLower, 0, pairLower, 0, MOST_PAIRS);
            System.arraycopy(other.pairHigher, 0, pairHigher, 0, MOST_PAIRS);
            System.arraycopy(other.pairTenths, 0, pairTenths, 0, MOST_PAIRS);
        }

        boolean has(int i) {
            return i >= 0 && i < size;
        }

        int takeIn(int colour, boolean isFixed) {
            colours[size] = colour;
            fixed[size] = isFixed;
            names[size] = NONE;
            size++;
            return size - 1;
        }

        int fixedOnes() {
            int ones = 0;
            for (int i = 0; i < size; i++) {
                if (fixed[i]) {
                    ones++;
                }
            }
            return ones;
        }

        boolean boxHolds(int name, int colour) {
            return Rgb.isBetween(colour, boxFrom[name], boxTo[name]);
        }

        boolean nameAllows(int i, int colour) {
            return names[i] == NONE || boxHolds(names[i], colour);
        }

        boolean wouldLeaveOut(int name, int from, int to) {
            for (int i = 0; i < size; i++) {
                if (names[i] == name && !Rgb.isBetween(colours[i], from, to)) {
                    return true;
                }
            }
            return false;
        }

        /** Whether there was room for the PAIR; one told again needs none. */
        boolean bind(int lower, int higher, int tenths) {
            int at = 0;
            while (at < pairs && (pairLower[at] != lower || pairHigher[at] != higher)) {
                at++;
            }
            if (at >= MOST_PAIRS) {
                return false;
            }
            pairLower[at] = lower;
            pairHigher[at] = higher;
            pairTenths[at] = tenths;
            pairs = Math.max(pairs, at + 1);
            return true;
        }

        boolean isMet(int p) {
            return Rgb.contrastReaches(colours[pairLower[p]], colours[pairHigher[p]], pairTenths[p]);
        }

        /** Whether COLOUR i would meet the CONTRASTS of its PAIRS as another colour. */
        boolean pairsAllow(int i, int colour) {
            for (int p = 0; p < pairs; p++) {
                int other = partnerOf(i, p);
                if (other != NONE && !Rgb.contrastReaches(colour, colours[other], pairTenths[p])) {
                    return false;
                }
            }
            return true;
        }

        private int partnerOf(int i, int p) {
            if (pairLower[p] == i) {
                return pairHigher[p];
            }
            return pairHigher[p] == i ? pairLower[p] : NONE;
        }
    }

    /** L levels of each of the three numbers. */
    private static final class Grid {
        private static final int MOST_LEVELS = 4;
        private static final int MOST_PLACES = 64;

        private int perChannel = 3;

        int places() {
            return perChannel * perChannel * perChannel;
        }

        int colourAt(int p) {
            int side = Math.max(1, perChannel);
            return Rgb.joined(levelValue(p / (side * side)), levelValue(p / side % side), levelValue(p % side));
        }

        private int levelValue(int i) {
            return i * 255 / Math.max(1, perChannel - 1);
        }
    }

    /** All that an IMAGE keeps. */
    private static final class Kept {
        private final Eyes eyes = new Eyes();
        private final House house = new House();
        private final Grid mesh = new Grid();

        void copyFrom(Kept other) {
            eyes.copyFrom(other.eyes);
            house.copyFrom(other.house);
            mesh.perChannel = other.mesh.perChannel;
        }

        int leastFromOthers(int i) {
            int least = NONE;
            for (int k = 0; k < house.size; k++) {
                if (k != i) {
                    int between = eyes.leastDistance(house.colours[i], house.colours[k]);
                    least = least == NONE ? between : Math.min(least, between);
                }
            }
            return least;
        }
    }

    /** Goes through the sets of the GRID for the BEST SET, and keeps the latest. */
    private static final class Chooser {
        private static final int MOST_CHOSEN = 5;

        private final int[] views = new int[Grid.MOST_PLACES * SIGHTS];
        private final int[] fixedView = new int[SIGHTS];
        private final int[] fromFixed = new int[Grid.MOST_PLACES];
        private final int[] between = new int[Grid.MOST_PLACES * Grid.MOST_PLACES];
        private final int[] trial = new int[MOST_CHOSEN];
        private final int[] latest = new int[MOST_CHOSEN];
        private int wanted = 0;
        private int places = 0;
        private int greatest = NONE;

        int placeAt(int k) {
            return k >= 0 && k < wanted ? latest[k] : NONE;
        }

        int choose(Kept now, int n) {
            wanted = n;
            places = now.mesh.places();
            greatest = NONE;
            lookAtPlaces(now);
            measureFromFixed(now);
            measureBetween(now.eyes);
            extend(this, 0, 0, FARTHEST);
            return greatest;
        }

        private void lookAtPlaces(Kept now) {
            for (int p = 0; p < places; p++) {
                now.eyes.lookWithAll(now.mesh.colourAt(p), views, p);
                fromFixed[p] = FARTHEST;
            }
        }

        private void measureFromFixed(Kept now) {
            for (int i = 0; i < now.house.size; i++) {
                if (now.house.fixed[i]) {
                    now.eyes.lookWithAll(now.house.colours[i], fixedView, 0);
                    for (int p = 0; p < places; p++) {
                        int away = now.eyes.leastOfViews(fixedView, 0, views, p);
                        fromFixed[p] = Math.min(fromFixed[p], away);
                    }
                }
            }
        }

        private void measureBetween(Eyes eyes) {
            if (wanted == 1) {
                return;
            }
            for (int p = 0; p < places; p++) {
                for (int q = p + 1; q < places; q++) {
                    between[p * Grid.MOST_PLACES + q] = eyes.leastOfViews(views, p, views, q);
                }
            }
        }

        /**
         * Sets come in the order of rows, so only a greater least APART replaces one,
         * and a start that is no greater already can be left.
         * Static, as the language's rules want of a method that calls itself.
         */
        private static void extend(Chooser own, int depth, int from, int least) {
            if (depth >= MOST_CHOSEN) {
                return;
            }
            int last = own.places - (own.wanted - depth);
            for (int p = from; p <= last && least > own.greatest; p++) {
                int reached = own.leastWith(depth, p, Math.min(least, own.fromFixed[p]));
                if (reached > own.greatest) {
                    own.trial[depth] = p;
                    if (depth + 1 < own.wanted) {
                        extend(own, depth + 1, p + 1, reached);
                    } else {
                        own.keepTrial(reached);
                    }
                }
            }
        }

        private int leastWith(int depth, int p, int start) {
            int least = start;
            for (int k = 0; k < depth && least > greatest; k++) {
                least = Math.min(least, between[trial[k] * Grid.MOST_PLACES + p]);
            }
            return least;
        }

        private void keepTrial(int least) {
            greatest = least;
            System.arraycopy(trial, 0, latest, 0, wanted);
        }
    }

    /** MOVES COLOURS of the HOUSE away from the others. */
    private static final class Mover {
        private static final int MOST_MOVES = 50;

        private final int[] views = new int[MOST_COLOURS * SIGHTS];
        private final int[] trialView = new int[SIGHTS];
        private boolean endedStuck = false;

        /** The DISTANCE that it was moved; NONE if there is no place. */
        int moveOne(Kept now, int i, int d) {
            lookAtHouse(now);
            return shift(now, i, d);
        }

        /** How often a COLOUR was moved. */
        int moveAll(Kept now, int d) {
            endedStuck = false;
            lookAtHouse(now);
            for (int moves = 0; moves < MOST_MOVES; moves++) {
                int nearest = nearestTwo(now, d);
                if (nearest == NONE) {
                    return moves;
                }
                int later = laterFree(now.house, nearest / MOST_COLOURS, nearest % MOST_COLOURS);
                if (later == NONE || shift(now, later, d) == NONE) {
                    endedStuck = true;
                    return moves;
                }
            }
            endedStuck = true;
            return MOST_MOVES;
        }

        private void lookAtHouse(Kept now) {
            for (int i = 0; i < now.house.size; i++) {
                now.eyes.lookWithAll(now.house.colours[i], views, i);
            }
        }

        /** The lower one times MOST_COLOURS and the later one; NONE if no two are nearer than d. */
        private int nearestTwo(Kept now, int d) {
            int nearest = NONE;
            int least = d;
            for (int i = 0; i < now.house.size; i++) {
                for (int k = i + 1; k < now.house.size; k++) {
                    int between = now.eyes.leastOfViews(views, i, views, k);
                    if (between < least) {
                        least = between;
                        nearest = i * MOST_COLOURS + k;
                    }
                }
            }
            return nearest;
        }

        private static int laterFree(House house, int lower, int later) {
            if (!house.fixed[later]) {
                return later;
            }
            return house.fixed[lower] ? NONE : lower;
        }

        /** Where it is comes first, as NONE, then the places upwards: of those alike the first is kept. */
        private int shift(Kept now, int i, int d) {
            int start = now.house.colours[i];
            int found = NONE;
            int least = FARTHEST;
            for (int p = NONE; p < now.mesh.places(); p++) {
                int colour = p == NONE ? start : now.mesh.colourAt(p);
                int away = now.eyes.weighed(start, colour);
                if (away < least && now.house.nameAllows(i, colour) && now.house.pairsAllow(i, colour)
                        && isFarFromOthers(now, i, colour, d)) {
                    least = away;
                    found = colour;
                }
            }
            if (found == NONE) {
                return NONE;
            }
            now.house.colours[i] = found;
            now.eyes.lookWithAll(found, views, i);
            return least;
        }

        private boolean isFarFromOthers(Kept now, int i, int colour, int d) {
            now.eyes.lookWithAll(colour, trialView, 0);
            for (int k = 0; k < now.house.size; k++) {
                if (k != i && now.eyes.leastOfViews(trialView, 0, views, k) < d) {
                    return false;
                }
            }
            return true;
        }
    }

    /** The latest RAMP. */
    private static final class Ramp {
        private static final int MOST_STEPS = 12;
        private static final int LAST_POINT = 255;

        private final int[] stepColours = new int[MOST_STEPS];
        private int steps = 0;

        /** At which point the last step lies; a is darker than b, so point 255 reaches every step. */
        int climb(int a, int b, int n) {
            int dark = Rgb.lightOf(a);
            int rise = Rgb.lightOf(b) - dark;
            int gaps = Math.max(1, n - 1);
            int filled = 0;
            int lastPoint = 0;
            for (int t = 0; t <= LAST_POINT && filled < n; t++) {
                int colour = pointAt(a, b, t);
                int light = Rgb.lightOf(colour);
                while (filled < n && light >= dark + rise * filled / gaps) {
                    stepColours[filled] = colour;
                    lastPoint = t;
                    filled++;
                }
            }
            steps = n;
            return lastPoint;
        }

        private static int pointAt(int a, int b, int t) {
            return Rgb.joined(mixed(Rgb.red(a), Rgb.red(b), t), mixed(Rgb.green(a), Rgb.green(b), t),
                    mixed(Rgb.blue(a), Rgb.blue(b), t));
        }

        private static int mixed(int a, int b, int t) {
            return (a * (LAST_POINT - t) + b * t + 127) / LAST_POINT;
        }

        int colourAt(int j) {
            return j >= 0 && j < steps ? stepColours[j] : NONE;
        }

        boolean growsFor(Eyes eyes, int sight) {
            int ahead = NONE;
            for (int j = 0; j < steps; j++) {
                int light = Rgb.lightOf(eyes.look(sight, stepColours[j]));
                if (light <= ahead) {
                    return false;
                }
                ahead = light;
            }
            return true;
        }
    }

    /** What an eye melts together. */
    private static final class Groups {
        private final int[] views = new int[MOST_COLOURS];
        private final boolean[] reached = new boolean[MOST_COLOURS];
        private final int[] members = new int[MOST_COLOURS];

        int lowestWith(Kept now, int sight, int d, int i) {
            int size = now.house.size;
            for (int k = 0; k < size; k++) {
                views[k] = now.eyes.look(sight, now.house.colours[k]);
                reached[k] = k == i;
            }
            members[0] = i;
            int found = 1;
            int lowest = i;
            for (int at = 0; at < size && at < found; at++) {
                lowest = Math.min(lowest, members[at]);
                found = reachFrom(now, members[at], d, found);
            }
            return lowest;
        }

        /** How many members there are then. */
        private int reachFrom(Kept now, int member, int d, int before) {
            int found = before;
            for (int k = 0; k < now.house.size; k++) {
                if (!reached[k] && now.eyes.weighed(views[member], views[k]) < d) {
                    reached[k] = true;
                    members[found] = k;
                    found++;
                }
            }
            return found;
        }
    }
}
