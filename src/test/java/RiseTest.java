import java.math.BigInteger;

/** Promise 6. */
public final class RiseTest {
    public static void main(String[] args) {
        withoutACommonDivisor();
        everyNumberOfRises();
        leastAndGreatest();
        notPlanned();
        noSuchPart();
        Check.end("RiseTest");
    }

    private static void rise(long numerator, long denominator, long total, int rises) {
        StairPlans plans = Check.planned(total, rises, 0, 1, 1);
        Check.due(numerator, "rise(0) of " + total + " / " + rises, () -> plans.rise(0));
        Check.due(denominator, "rise(1) of " + total + " / " + rises, () -> plans.rise(1));
    }

    private static void withoutACommonDivisor() {
        Check.sentence("its denominator (1), without a common divisor");
        rise(18, 1, 270, 15);
        rise(9, 2, 270, 60);
        rise(7, 6, 7, 6);
        rise(1, 1, 60, 60);
        rise(59, 60, 59, 60);
        rise(61, 60, 61, 60);
        rise(5000, 3, 100000, 60);
        rise(99991, 60, 99991, 60);
    }

    private static void everyNumberOfRises() {
        Check.sentence("A stair goes up TOTAL by n RISES, each TOTAL / n");
        for (long total : new long[] {1, 2, 60, 270, 30030, 65536, 99999, 100000}) {
            for (int n = 1; n <= 60; n++) {
                long divisor = BigInteger.valueOf(total).gcd(BigInteger.valueOf(n)).longValueExact();
                rise(total / divisor, n / divisor, total, n);
            }
        }
    }

    private static void leastAndGreatest() {
        Check.sentence("The RISE's numerator (the lowest rise and the highest)");
        rise(1, 60, 1, 60);
        rise(100000, 1, 100000, 1);
        rise(1, 1, 1, 1);
    }

    private static void notPlanned() {
        Check.sentence("IllegalStateException (first) (rise)");
        for (int part : new int[] {0, 1, -1, 2, Integer.MIN_VALUE, Integer.MAX_VALUE}) {
            Check.due(Check.STATE, "rise(" + part + ") of a new object", () -> new StairPlans().rise(part));
        }
    }

    private static void noSuchPart() {
        Check.sentence("(part = 0), its denominator (1); IndexOutOfBoundsException");
        StairPlans plans = Check.planned(270, 60, 0, 1, 1);
        for (int part : Check.noIndex(2)) {
            Check.due(Check.INDEX, "rise(" + part + ")", () -> plans.rise(part));
        }
        Check.due(9, "rise(0) after those", () -> plans.rise(0));
        Check.due(2, "rise(1) after those", () -> plans.rise(1));
    }
}
