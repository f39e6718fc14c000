import java.math.BigInteger;
import java.util.ArrayList;
import java.util.List;
import java.util.regex.Matcher;
import java.util.regex.Pattern;

/**
 * The document once more, written in another way than the program (texts by patterns, treads by walking, areas by
 * corners, big numbers), to compare long runs of calls with. A call answers a text, as Check.answer() does.
 */
final class Oracle {
    private static final String TERM = "[0-9]{0,2}[rgnwt]";
    private static final String RULE = TERM + "(?:\\+" + TERM + "){0,3}[<>=][0-9]{1,6}";
    private static final Pattern TEXT = Pattern.compile(RULE + "(?:;" + RULE + "){0,7}");
    private static final Pattern PART = Pattern.compile("([0-9]*)([rgnwt])");

    /** A tread: its sides, its shape, and its height times the rises. */
    record Tread(long x0, long y0, long x1, long y1, long shape, long height) {
        long side(int what) {
            return new long[] {x0, y0, x1, y1, shape, height}[what];
        }
    }

    private final List<long[]> floors = new ArrayList<>();
    private String text = "";
    private List<String> rules = List.of();
    private long total = 270;
    private int kind;
    private long going;
    private long width;
    private int rises;
    private List<Tread> treads;
    private long[] gap;

    String heights(long told) {
        if (told < 1 || told > 100000) {
            return Check.ARGUMENT;
        }
        boolean another = told != total;
        if (another) {
            total = told;
            treads = null;
        }
        return String.valueOf(another);
    }

    String unit(int u) {
        boolean room = text.length() < 120 && u > 32 && u < 127;
        if (room) {
            text += (char) u;
        }
        return String.valueOf(room);
    }

    String rules() {
        String read = text;
        text = "";
        if (TEXT.matcher(read).matches()) {
            rules = List.of(read.split(";"));
            treads = null;
            return String.valueOf(rules.size());
        }
        int place = 0;
        while (place < read.length() && canGoOn(read.substring(0, place + 1))) {
            place++;
        }
        return String.valueOf(-1 - place);
    }

    private static boolean canGoOn(String start) {
        Matcher matcher = TEXT.matcher(start);
        return matcher.matches() || matcher.hitEnd();
    }

    String run(int asked, long depth, long breadth) {
        if (rules.isEmpty()) {
            return Check.STATE;
        }
        if (asked < 0 || asked > 2 || depth < 1 || depth > 10000 || breadth < 1 || breadth > 10000) {
            return Check.ARGUMENT;
        }
        kind = asked;
        going = depth;
        width = breadth;
        treads = null;
        gap = null;
        int best = -1;
        for (int n = new int[] {1, 2, 4}[kind]; n <= 60; n++) {
            int first = firstBroken(n);
            if (first == rules.size()) {
                rises = n;
                treads = walk();
                return String.valueOf(n);
            }
            best = Math.max(best, first);
        }
        return String.valueOf(-1 - best);
    }

    private int firstBroken(int n) {
        for (int i = 0; i < rules.size(); i++) {
            if (!holds(rules.get(i), n)) {
                return i;
            }
        }
        return rules.size();
    }

    private boolean holds(String rule, int n) {
        int at = rule.replaceAll("[<>=].*", "").length();
        BigInteger sum = BigInteger.ZERO;
        Matcher parts = PART.matcher(rule.substring(0, at));
        while (parts.find()) {
            long weight = parts.group(1).isEmpty() ? 1 : Long.parseLong(parts.group(1));
            sum = sum.add(BigInteger.valueOf(weight).multiply(BigInteger.valueOf(timesRises(parts.group(2), n))));
        }
        int sign = sum.compareTo(new BigInteger(rule.substring(at + 1)).multiply(BigInteger.valueOf(n)));
        return rule.charAt(at) == (sign < 0 ? '<' : sign > 0 ? '>' : '=');
    }

    private long timesRises(String letter, int n) {
        return switch (letter) {
            case "r" -> total;
            case "g" -> going * n;
            case "n" -> (long) n * n;
            case "w" -> width * n;
            default -> total * n;
        };
    }

    private List<Tread> walk() {
        List<Tread> made = new ArrayList<>();
        int inCorner = new int[] {0, 1, 3}[kind];
        int before = kind == 0 ? rises - 1 : (rises - 1 - inCorner) / 2;
        long x = 0;
        long height = 0;
        for (int i = 0; i < before; i++) {
            height += total;
            made.add(new Tread(x, 0, x + going, width, 0, height));
            x += going;
        }
        for (int i = 0; i < inCorner; i++) {
            height += total;
            made.add(new Tread(x, 0, x + width, width, kind + 1, height));
        }
        long y = width;
        while (made.size() < rises - 1) {
            height += total;
            made.add(new Tread(x, y, x + width, y + going, 1, height));
            y += going;
        }
        return made;
    }

    private static long[] shortest(long top, long bottom) {
        long divisor = BigInteger.valueOf(top).gcd(BigInteger.valueOf(bottom)).longValueExact();
        return new long[] {top / divisor, bottom / divisor};
    }

    private static String one(long[] row, int index) {
        return index < 0 || index >= row.length ? Check.INDEX : String.valueOf(row[index]);
    }

    String rise(int part) {
        return treads == null ? Check.STATE : one(shortest(total, rises), part);
    }

    String step(int k, int what) {
        if (treads == null) {
            return Check.STATE;
        }
        if (k < 0 || k >= treads.size()) {
            return Check.INDEX;
        }
        return what < 0 || what > 5 ? Check.ARGUMENT : String.valueOf(treads.get(k).side(what));
    }

    /** The outer places of the four edges times three, x and y by turns. */
    private long[] edges() {
        Tread corner = treads.stream().filter(tread -> tread.shape() == 3).findFirst().orElseThrow();
        long x = 3 * corner.x0();
        long far = 3 * corner.x1();
        return new long[] {x, 0, x + 2 * width, 0, far, width, far, 3 * width};
    }

    String winder(int edge, int axis) {
        if (treads == null || kind != 2) {
            return Check.STATE;
        }
        return axis < 0 || axis > 1 || edge < 0 || edge > 3 ? Check.INDEX : one(edges(), 2 * edge + axis);
    }

    String area(int winder) {
        if (treads == null || kind != 2) {
            return Check.STATE;
        }
        if (winder < 0 || winder > 2) {
            return Check.INDEX;
        }
        long[] edges = edges();
        List<long[]> corners = new ArrayList<>();
        corners.add(new long[] {edges[0], 3 * width});
        corners.add(new long[] {edges[2 * winder], edges[2 * winder + 1]});
        if (winder == 1) {
            corners.add(new long[] {edges[6], 0});
        }
        corners.add(new long[] {edges[2 * winder + 2], edges[2 * winder + 3]});
        long twice = 0;
        for (int i = 0; i < corners.size(); i++) {
            long[] a = corners.get(i);
            long[] b = corners.get((i + 1) % corners.size());
            twice += a[0] * b[1] - b[0] * a[1];
        }
        // Both axes are times three, so the area is times nine.
        return String.valueOf(Math.abs(twice) / 3);
    }

    String meets(int rule) {
        if (treads == null) {
            return Check.STATE;
        }
        return rule < 0 || rule >= rules.size() ? Check.INDEX : String.valueOf(holds(rules.get(rule), rises));
    }

    String floor(long x0, long y0, long x1, long y1, long height) {
        for (long place : new long[] {x0, y0, x1, y1}) {
            if (place < -1000000 || place > 1000000) {
                return Check.ARGUMENT;
            }
        }
        if (x1 <= x0 || y1 <= y0 || height < 0 || height > 1000000) {
            return Check.ARGUMENT;
        }
        return String.valueOf(floors.size() < 8 && floors.add(new long[] {x0, y0, x1, y1, height}));
    }

    String headRoom() {
        if (treads == null) {
            return Check.STATE;
        }
        long least = Long.MAX_VALUE;
        for (long[] floor : floors) {
            for (Tread tread : treads) {
                boolean over = Math.max(floor[0], tread.x0()) < Math.min(floor[2], tread.x1())
                        && Math.max(floor[1], tread.y0()) < Math.min(floor[3], tread.y1());
                least = over ? Math.min(least, floor[4] * rises - tread.height()) : least;
            }
        }
        return String.valueOf(least);
    }

    String string(int end) {
        if (treads == null) {
            return Check.STATE;
        }
        BigInteger n = BigInteger.valueOf(rises);
        BigInteger along = BigInteger.valueOf(going * (rises - 1)).multiply(n).pow(2);
        BigInteger[] square = along.add(BigInteger.valueOf(total * (rises - 1)).pow(2)).divideAndRemainder(n.pow(2));
        BigInteger[] root = square[0].sqrtAndRemainder();
        boolean whole = square[1].signum() == 0 && root[1].signum() == 0;
        long cutOff = root[0].longValueExact();
        return one(new long[] {cutOff, whole ? cutOff : cutOff + 1}, end);
    }

    String balusters(long thick, long most) {
        if (treads == null) {
            return Check.STATE;
        }
        if (thick < 1 || thick > 1000 || most < 0) {
            return Check.ARGUMENT;
        }
        gap = null;
        for (int c = 0; c <= 1000; c++) {
            long open = (rises - 1) * going - c * thick;
            boolean narrow = BigInteger.valueOf(most).multiply(BigInteger.valueOf(c + 1))
                    .compareTo(BigInteger.valueOf(open)) >= 0;
            if (open >= 0 && narrow) {
                gap = shortest(open, c + 1);
                return String.valueOf(c);
            }
        }
        return "-1";
    }

    String gap(int part) {
        return treads == null || gap == null ? Check.STATE : one(gap, part);
    }

    String list(int k) {
        if (treads == null) {
            return Check.STATE;
        }
        long[] counts = new long[4];
        for (Tread tread : treads) {
            counts[tread.shape() < 2 ? 0 : (int) tread.shape() - 1]++;
        }
        counts[3] = rises;
        return one(counts, k);
    }
}
