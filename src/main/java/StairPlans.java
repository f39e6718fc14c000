/**
 * Plans stairs by rules of a text: straight ones, ones with a landing in the corner and ones with
 * three winders there. All numbers are exact; lengths share one unit of the caller's choice.
 */
public final class StairPlans {
    public static final int NONE = -1;

    private static final int STRAIGHT = 0;
    private static final int LANDING = 1;
    private static final int WINDERS = 2;

    private static final long FIRST_TOTAL = 270;
    private static final long MOST_TOTAL = 100000;
    private static final long MOST_GOING_OR_WIDTH = 10000;
    private static final int MOST_RISES = 60;
    private static final long MOST_THICK = 1000;
    private static final int MOST_BALUSTERS = 1000;

    private final RuleText text;
    private RuleSet ruleSet;
    // A text that turns out wrong must leave the rules as they were, so each is read into this one.
    private RuleSet spareRuleSet;
    private final FloorSet floorSet;
    private final Stair stair;
    private final Fraction riseFraction;
    private final Fraction gapFraction;
    private long total;
    private boolean planned;
    // Only ever true while a stair is planned: whatever ends a plan ends its gap too.
    private boolean gapFound;

    public StairPlans() {
        text = new RuleText();
        ruleSet = new RuleSet();
        spareRuleSet = new RuleSet();
        floorSet = new FloorSet();
        stair = new Stair();
        riseFraction = new Fraction();
        gapFraction = new Fraction();
        total = FIRST_TOTAL;
        planned = false;
        gapFound = false;
    }

    public boolean heights(long total) throws IllegalArgumentException {
        if (total < 1 || total > MOST_TOTAL) {
            throw new IllegalArgumentException("total is not 1 .. 100000");
        }
        if (total == this.total) {
            return false;
        }
        this.total = total;
        forgetPlan();
        return true;
    }

    public boolean unit(int u) {
        return text.append(u);
    }

    public int rules() {
        boolean right = text.readInto(spareRuleSet);
        int place = text.place;
        text.clear();
        if (!right) {
            return -1 - place;
        }
        RuleSet read = spareRuleSet;
        spareRuleSet = ruleSet;
        ruleSet = read;
        forgetPlan();
        return ruleSet.count;
    }

    public int run(int kind, long going, long width) throws IllegalStateException, IllegalArgumentException {
        if (ruleSet.count == 0) {
            throw new IllegalStateException("no rules were read");
        }
        if (kind < STRAIGHT || kind > WINDERS) {
            throw new IllegalArgumentException("kind is not 0 .. 2");
        }
        if (going < 1 || going > MOST_GOING_OR_WIDTH || width < 1 || width > MOST_GOING_OR_WIDTH) {
            throw new IllegalArgumentException("going or width is not 1 .. 10000");
        }
        forgetPlan();
        stair.measure(kind, total, going, width);
        int mostHeld = 0;
        for (int n = stair.fewestRises(); n <= MOST_RISES; n++) {
            stair.divide(n);
            int held = ruleSet.heldFromFirst(stair);
            if (held == ruleSet.count) {
                planned = true;
                riseFraction.take(total, n);
                return n;
            }
            mostHeld = Math.max(mostHeld, held);
        }
        return -1 - mostHeld;
    }

    public long rise(int part) throws IllegalStateException, IndexOutOfBoundsException {
        requirePlan();
        requireIndex(part, 2);
        return part == 0 ? riseFraction.numerator : riseFraction.denominator;
    }

    public long step(int k, int what)
            throws IllegalStateException, IndexOutOfBoundsException, IllegalArgumentException {
        requirePlan();
        requireIndex(k, stair.treads());
        switch (what) {
            case 0:
                return stair.leastX(k);
            case 1:
                return stair.leastY(k);
            case 2:
                return stair.greatestX(k);
            case 3:
                return stair.greatestY(k);
            case 4:
                return stair.shape(k);
            case 5:
                return stair.heightTimesRises(k);
            default:
                throw new IllegalArgumentException("what is not 0 .. 5");
        }
    }

    public long winder(int edge, int axis) throws IllegalStateException, IndexOutOfBoundsException {
        requireWinders();
        requireIndex(edge, 4);
        requireIndex(axis, 2);
        return axis == 0 ? stair.edgeXTimesThree(edge) : stair.edgeYTimesThree(edge);
    }

    public long area(int winder) throws IllegalStateException, IndexOutOfBoundsException {
        requireWinders();
        requireIndex(winder, 3);
        return stair.sixTimesWinderArea();
    }

    public boolean meets(int rule) throws IllegalStateException, IndexOutOfBoundsException {
        requirePlan();
        requireIndex(rule, ruleSet.count);
        return ruleSet.holds(rule, stair);
    }

    public boolean floor(long x0, long y0, long x1, long y1, long height) throws IllegalArgumentException {
        if (!FloorSet.isPlace(x0) || !FloorSet.isPlace(y0) || !FloorSet.isPlace(x1) || !FloorSet.isPlace(y1)) {
            throw new IllegalArgumentException("a place is not -1000000 .. 1000000");
        }
        if (x1 <= x0 || y1 <= y0) {
            throw new IllegalArgumentException("x1 is not above x0, or y1 not above y0");
        }
        if (!FloorSet.isHeight(height)) {
            throw new IllegalArgumentException("height is not 0 .. 1000000");
        }
        return floorSet.append(x0, y0, x1, y1, height);
    }

    public long headRoom() throws IllegalStateException {
        requirePlan();
        return floorSet.leastRoomTimesRises(stair);
    }

    public long string(int end) throws IllegalStateException, IndexOutOfBoundsException {
        requirePlan();
        requireIndex(end, 2);
        long cutOff = stair.stringCutOff();
        return end == 0 || stair.isStringWhole(cutOff) ? cutOff : cutOff + 1;
    }

    public int balusters(long thick, long most) throws IllegalStateException, IllegalArgumentException {
        requirePlan();
        if (thick < 1 || thick > MOST_THICK) {
            throw new IllegalArgumentException("thick is not 1 .. 1000");
        }
        if (most < 0) {
            throw new IllegalArgumentException("most is below 0");
        }
        long length = stair.along();
        int count = fewestBalusters(length, thick, most);
        gapFound = count != NONE;
        if (gapFound) {
            gapFraction.take(length - count * thick, count + 1);
        }
        return count;
    }

    public long gap(int part) throws IllegalStateException, IndexOutOfBoundsException {
        if (!gapFound) {
            throw new IllegalStateException("no balusters were found for this stair");
        }
        requireIndex(part, 2);
        return part == 0 ? gapFraction.numerator : gapFraction.denominator;
    }

    public int list(int k) throws IllegalStateException, IndexOutOfBoundsException {
        requirePlan();
        requireIndex(k, 4);
        switch (k) {
            case 0:
                return stair.treads() - stair.landings() - stair.winders();
            case 1:
                return stair.landings();
            case 2:
                return stair.winders();
            default:
                return stair.rises;
        }
    }

    private void forgetPlan() {
        planned = false;
        gapFound = false;
    }

    private void requirePlan() {
        if (!planned) {
            throw new IllegalStateException("no stair is planned");
        }
    }

    private void requireWinders() {
        requirePlan();
        if (stair.winders() == 0) {
            throw new IllegalStateException("the stair has no winders");
        }
    }

    private static void requireIndex(int index, int count) {
        if (index < 0 || index >= count) {
            throw new IndexOutOfBoundsException("there is none of that number");
        }
    }

    private static int fewestBalusters(long length, long thick, long most) {
        // A gap is never broader than the whole length, and without this cut the product below could wrap.
        long broadest = Math.min(most, length);
        for (int count = 0; count <= MOST_BALUSTERS; count++) {
            long open = length - count * thick;
            if (open < 0) {
                return NONE;
            }
            if (open <= broadest * (count + 1)) {
                return count;
            }
        }
        return NONE;
    }

    /** A fraction without a common divisor. */
    private static final class Fraction {
        // Euclid's steps for numbers below 2 to the 63rd are fewer than this.
        private static final int MOST_DIVISIONS = 100;

        private long numerator = 0;
        private long denominator = 1;

        void take(long top, long bottom) {
            long divisor = commonDivisor(top, bottom);
            if (divisor > 0) {
                numerator = top / divisor;
                denominator = bottom / divisor;
            }
        }

        private static long commonDivisor(long first, long second) {
            long a = first;
            long b = second;
            for (int i = 0; i < MOST_DIVISIONS && b != 0; i++) {
                long rest = a % b;
                a = b;
                b = rest;
            }
            return a;
        }
    }

    /** A stair of one kind, divided into rises: where its treads lie, and how long its string is. */
    private static final class Stair {
        private static final int ALONG_X = 0;
        private static final int ALONG_Y = 1;
        private static final int SQUARE = 2;
        private static final int WINDER = 3;

        // The longest string, of 59 treads of 10000 along and 59 / 60 of 100000 up, is below 2 to the 20th.
        private static final int STRING_BITS = 20;

        private int kind = STRAIGHT;
        private int rises = 1;
        private long total = 1;
        private long going = 1;
        private long width = 1;
        // The corner's treads are those from the first of these two numbers to before the second.
        private int cornerFrom = 0;
        private int cornerTo = 0;

        void measure(int kind, long total, long going, long width) {
            this.kind = kind;
            this.total = total;
            this.going = going;
            this.width = width;
        }

        void divide(int rises) {
            this.rises = rises;
            cornerFrom = kind == STRAIGHT ? treads() : (rises - fewestRises()) / 2;
            cornerTo = cornerFrom + landings() + winders();
        }

        int fewestRises() {
            return kind == WINDERS ? 4 : kind == LANDING ? 2 : 1;
        }

        int treads() {
            return rises - 1;
        }

        int landings() {
            return kind == LANDING ? 1 : 0;
        }

        int winders() {
            return kind == WINDERS ? 3 : 0;
        }

        private long cornerX() {
            return cornerFrom * going;
        }

        int shape(int k) {
            if (k < cornerFrom) {
                return ALONG_X;
            }
            if (k >= cornerTo) {
                return ALONG_Y;
            }
            return kind == LANDING ? SQUARE : WINDER;
        }

        long leastX(int k) {
            return shape(k) == ALONG_X ? k * going : cornerX();
        }

        long greatestX(int k) {
            return shape(k) == ALONG_X ? (k + 1) * going : cornerX() + width;
        }

        long leastY(int k) {
            return shape(k) == ALONG_Y ? width + (k - cornerTo) * going : 0;
        }

        long greatestY(int k) {
            return shape(k) == ALONG_Y ? leastY(k) + going : width;
        }

        long heightTimesRises(int k) {
            return (k + 1) * total;
        }

        // The edges end at 0, 2 / 3, 4 / 3 and 2 of the width, first along x to the square's side, then up.
        long edgeXTimesThree(int edge) {
            return 3 * cornerX() + Math.min(2 * edge * width, 3 * width);
        }

        long edgeYTimesThree(int edge) {
            return Math.max(2 * edge * width - 3 * width, 0);
        }

        // Every winder is a third of the square: the two outer ones are triangles of 2 / 3 of the width by
        // the width, and what they leave is the one between.
        long sixTimesWinderArea() {
            return 2 * width * width;
        }

        long along() {
            return treads() * going;
        }

        // Of the string times the rises, which is the root of a whole number.
        private long scaledStringSquare() {
            long alongScaled = along() * rises;
            long upScaled = treads() * total;
            return alongScaled * alongScaled + upScaled * upScaled;
        }

        private long scaledSquare(long length) {
            return length * rises * length * rises;
        }

        long stringCutOff() {
            long square = scaledStringSquare();
            long root = 0;
            for (int bit = STRING_BITS - 1; bit >= 0; bit--) {
                long tried = root + (1L << bit);
                if (scaledSquare(tried) <= square) {
                    root = tried;
                }
            }
            return root;
        }

        boolean isStringWhole(long cutOff) {
            return scaledSquare(cutOff) == scaledStringSquare();
        }
    }

    /** The floors above, and the room that they leave over a stair. */
    private static final class FloorSet {
        private static final int MOST_FLOORS = 8;
        private static final long FARTHEST = 1000000;
        private static final long HIGHEST = 1000000;
        private static final long GREATEST_LONG = 0x7fffffffffffffffL;

        private final long[] x0 = new long[MOST_FLOORS];
        private final long[] y0 = new long[MOST_FLOORS];
        private final long[] x1 = new long[MOST_FLOORS];
        private final long[] y1 = new long[MOST_FLOORS];
        private final long[] height = new long[MOST_FLOORS];
        private int count = 0;

        static boolean isPlace(long place) {
            return place >= -FARTHEST && place <= FARTHEST;
        }

        static boolean isHeight(long height) {
            return height >= 0 && height <= HIGHEST;
        }

        boolean append(long leastX, long leastY, long greatestX, long greatestY, long above) {
            if (count >= MOST_FLOORS) {
                return false;
            }
            x0[count] = leastX;
            y0[count] = leastY;
            x1[count] = greatestX;
            y1[count] = greatestY;
            height[count] = above;
            count++;
            return true;
        }

        long leastRoomTimesRises(Stair stair) {
            long least = GREATEST_LONG;
            for (int i = 0; i < count && i < MOST_FLOORS; i++) {
                for (int k = 0; k < stair.treads(); k++) {
                    if (isOver(i, stair, k)) {
                        least = Math.min(least, height[i] * stair.rises - stair.heightTimesRises(k));
                    }
                }
            }
            return least;
        }

        private boolean isOver(int i, Stair stair, int k) {
            return i >= 0 && i < MOST_FLOORS
                    && x0[i] < stair.greatestX(k) && stair.leastX(k) < x1[i]
                    && y0[i] < stair.greatestY(k) && stair.leastY(k) < y1[i];
        }
    }

    /** Rules as they were read: for each the weights of the five letters, and what their sum is compared with. */
    private static final class RuleSet {
        private static final int MOST_RULES = 8;
        private static final String LETTERS = "rgnwt";
        private static final int LETTER_COUNT = 5;

        private final int[] weights = new int[MOST_RULES * LETTER_COUNT];
        private final char[] relations = new char[MOST_RULES];
        private final int[] bounds = new int[MOST_RULES];
        private int count = 0;

        void clear() {
            count = 0;
            for (int i = 0; i < weights.length; i++) {
                weights[i] = 0;
            }
        }

        // The rule behind the last one is filled by these two, and counts once it is closed.
        void addTerm(int weight, int letter) {
            if (count < MOST_RULES && letter >= 0 && letter < LETTER_COUNT) {
                weights[count * LETTER_COUNT + letter] += weight;
            }
        }

        void close(char relation, int bound) {
            if (count < MOST_RULES) {
                relations[count] = relation;
                bounds[count] = bound;
                count++;
            }
        }

        int heldFromFirst(Stair stair) {
            int held = 0;
            while (held < count && holds(held, stair)) {
                held++;
            }
            return held;
        }

        boolean holds(int rule, Stair stair) {
            if (rule < 0 || rule >= count || rule >= MOST_RULES) {
                return false;
            }
            // Both sides times the rises, so that the rise is whole.
            long sum = sumTimesRises(rule * LETTER_COUNT, stair);
            long bound = (long) bounds[rule] * stair.rises;
            if (relations[rule] == '<') {
                return sum < bound;
            }
            if (relations[rule] == '>') {
                return sum > bound;
            }
            return sum == bound;
        }

        private long sumTimesRises(int first, Stair stair) {
            if (first < 0 || first > weights.length - LETTER_COUNT) {
                return 0;
            }
            long whole = weights[first + 1] * stair.going
                    + (long) weights[first + 2] * stair.rises
                    + weights[first + 3] * stair.width
                    + weights[first + 4] * stair.total;
            return weights[first] * stair.total + whole * stair.rises;
        }
    }

    /** The text that rules are read from, character by character. */
    private static final class RuleText {
        private static final int ROOM = 120;
        private static final int MOST_TERMS = 4;
        private static final int MOST_WEIGHT_DIGITS = 2;
        private static final int MOST_BOUND_DIGITS = 6;
        // No character of the text is this one.
        private static final char END = 0;

        private final char[] characters = new char[ROOM];
        private int length = 0;
        private int place = 0;

        boolean append(int character) {
            if (character < 33 || character > 126 || length >= ROOM) {
                return false;
            }
            characters[length] = (char) character;
            length++;
            return true;
        }

        void clear() {
            length = 0;
        }

        /** Whether the whole text is rules; if not, the place is the one where it goes wrong. */
        boolean readInto(RuleSet set) {
            set.clear();
            place = 0;
            for (int i = 0; i < RuleSet.MOST_RULES; i++) {
                if (!readRule(set)) {
                    return false;
                }
                if (place == length) {
                    return true;
                }
                if (next() != ';' || i == RuleSet.MOST_RULES - 1) {
                    return false;
                }
                place++;
            }
            return false;
        }

        private boolean readRule(RuleSet set) {
            if (!readSum(set)) {
                return false;
            }
            char relation = next();
            if (relation != '<' && relation != '>' && relation != '=') {
                return false;
            }
            place++;
            int bound = readNumber(MOST_BOUND_DIGITS);
            if (bound == NONE) {
                return false;
            }
            set.close(relation, bound);
            return true;
        }

        private boolean readSum(RuleSet set) {
            for (int i = 0; i < MOST_TERMS; i++) {
                if (!readTerm(set)) {
                    return false;
                }
                // A plus behind the last term is left standing: readRule finds that it can't be there.
                if (next() != '+' || i == MOST_TERMS - 1) {
                    return true;
                }
                place++;
            }
            return true;
        }

        private boolean readTerm(RuleSet set) {
            int weight = readNumber(MOST_WEIGHT_DIGITS);
            int letter = RuleSet.LETTERS.indexOf(next());
            if (letter < 0) {
                return false;
            }
            place++;
            set.addTerm(weight == NONE ? 1 : weight, letter);
            return true;
        }

        /** The number of at most so many digits from the place on, or NONE if no digit stands there. */
        private int readNumber(int mostDigits) {
            int number = NONE;
            for (int i = 0; i < mostDigits && next() >= '0' && next() <= '9'; i++) {
                int digit = next() - '0';
                number = i == 0 ? digit : number * 10 + digit;
                place++;
            }
            return number;
        }

        private char next() {
            return place >= 0 && place < length && place < ROOM ? characters[place] : END;
        }
    }
}
