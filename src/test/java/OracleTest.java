import java.util.Random;
import java.util.function.Supplier;

/** All promises together: runs of 512 calls on new objects, each answer compared with the oracle's. */
public final class OracleTest {
    private static final int RUNS = 3000;
    private static final int CALLS = 512;
    private static final String[] TEXTS = {
        "r<19;2r+g<65;2r+g>59", "n=4", "n>3", "n>0", "n=1", "n=2", "n>59", "n>40;n<50", "r<20;r>15", "2r+g+n+w<900",
        "99r+99g+99n+99w<999999", "t>99;r<40;n>7", "7n=49;t+t>0", "n>9;n>19;n>29;n<30", "3r=100", "g+w>30;r<9;n<70",
        "n>1;n>2;n>3;n>4;n>5;n>6;n>7;n>8", "00r=000000", "g=1", "w<2;n>5",
    };
    private static final String CHARACTERS = "rgnwt<>=;+0123456789x ";
    private static final int[] ODD = {-1, 2, 3, 4, 5, 6, 60, Integer.MIN_VALUE, Integer.MAX_VALUE};

    private final Random random;
    private final StairPlans plans = new StairPlans();
    private final Oracle oracle = new Oracle();
    private String waiting = "";

    private OracleTest(long seed) {
        random = new Random(seed);
    }

    public static void main(String[] args) {
        for (int run = 0; run < RUNS; run++) {
            OracleTest test = new OracleTest(run);
            for (int i = 0; i < CALLS; i++) {
                test.call("run " + run + ", call " + i + ": ");
            }
        }
        Check.end("OracleTest");
    }

    private static void same(String label, String want, Supplier<Object> call) {
        Check.due(want, label, call);
    }

    private int small(int bound) {
        return random.nextInt(12) == 0 ? ODD[random.nextInt(ODD.length)] : random.nextInt(bound);
    }

    private long length(long greatest) {
        return switch (random.nextInt(16)) {
            case 0 -> 0;
            case 1 -> greatest;
            case 2 -> greatest + 1;
            case 3 -> random.nextLong();
            case 4, 5, 6 -> 1 + (long) (random.nextDouble() * greatest);
            default -> 1 + random.nextInt(60);
        };
    }

    private String someText() {
        StringBuilder made = new StringBuilder(TEXTS[random.nextInt(TEXTS.length)]);
        while (random.nextInt(3) == 0) {
            made.append(';').append(TEXTS[random.nextInt(TEXTS.length)]);
        }
        while (random.nextInt(4) == 0) {
            int at = random.nextInt(made.length());
            char other = CHARACTERS.charAt(random.nextInt(CHARACTERS.length()));
            switch (random.nextInt(3)) {
                case 0 -> made.setCharAt(at, other);
                case 1 -> made.insert(at, other);
                default -> made.setLength(Math.max(at, 1));
            }
        }
        return made.toString();
    }

    private void call(String label) {
        if (!waiting.isEmpty()) {
            int u = waiting.charAt(0);
            waiting = waiting.substring(1);
            same(label + "unit " + u, oracle.unit(u), () -> plans.unit(u));
            if (waiting.isEmpty()) {
                same(label + "rules", oracle.rules(), plans::rules);
            }
            return;
        }
        switch (random.nextInt(24)) {
            case 0 -> waiting = someText();
            case 1 -> heights(label);
            case 2, 3, 4 -> run(label);
            case 5 -> floor(label);
            case 6, 7 -> balusters(label);
            default -> ask(label);
        }
    }

    private void heights(String label) {
        long total = random.nextInt(3) == 0 ? 270 : length(100000);
        same(label + "heights " + total, oracle.heights(total), () -> plans.heights(total));
    }

    private void run(String label) {
        int kind = small(3);
        long going = length(10000);
        long width = length(10000);
        same(label + "run " + kind + " " + going + " " + width, oracle.run(kind, going, width),
                () -> plans.run(kind, going, width));
    }

    private void floor(String label) {
        long x0 = random.nextInt(20) == 0 ? -length(1000000) : random.nextInt(200) - 50;
        long y0 = random.nextInt(20) == 0 ? -length(1000000) : random.nextInt(200) - 50;
        long x1 = random.nextInt(20) == 0 ? length(1000000) : x0 + random.nextInt(100);
        long y1 = random.nextInt(20) == 0 ? length(1000000) : y0 + random.nextInt(100);
        long height = random.nextInt(20) == 0 ? length(1000000) : random.nextInt(600);
        same(label + "floor", oracle.floor(x0, y0, x1, y1, height), () -> plans.floor(x0, y0, x1, y1, height));
    }

    private void balusters(String label) {
        long thick = length(1000);
        long most = random.nextInt(20) == 0 ? random.nextLong() : length(random.nextInt(2000));
        same(label + "balusters " + thick + " " + most, oracle.balusters(thick, most),
                () -> plans.balusters(thick, most));
    }

    private void ask(String label) {
        int a = small(4);
        int b = small(2);
        int k = small(60);
        int what = small(6);
        switch (random.nextInt(11)) {
            case 0 -> same(label + "rise " + b, oracle.rise(b), () -> plans.rise(b));
            case 1 -> same(label + "winder " + a + " " + b, oracle.winder(a, b), () -> plans.winder(a, b));
            case 2 -> same(label + "area " + a, oracle.area(a), () -> plans.area(a));
            case 3 -> same(label + "meets " + a, oracle.meets(a), () -> plans.meets(a));
            case 4 -> same(label + "headRoom", oracle.headRoom(), plans::headRoom);
            case 5 -> same(label + "string " + b, oracle.string(b), () -> plans.string(b));
            case 6 -> same(label + "gap " + b, oracle.gap(b), () -> plans.gap(b));
            case 7 -> same(label + "list " + a, oracle.list(a), () -> plans.list(a));
            default -> same(label + "step " + k + " " + what, oracle.step(k, what), () -> plans.step(k, what));
        }
    }
}
