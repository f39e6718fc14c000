/** Promise 6. */
public final class RiseTest {
    public static void main(String[] args) {
        rise(18, 1, 270, 15);
        rise(9, 2, 270, 60);
        rise(7, 6, 7, 6);
        rise(1, 60, 1, 60);
        rise(1, 1, 60, 60);
        rise(5000, 3, 100000, 60);
        rise(99991, 60, 99991, 60);
        rise(100000, 1, 100000, 1);
        wrongParts();
        Check.end("RiseTest");
    }

    private static void rise(long numerator, long denominator, long total, int rises) {
        StairPlans plans = Check.planned(total, rises, 0, 1, 1);
        Check.due(numerator, "rise(0) of " + total + " / " + rises, () -> plans.rise(0));
        Check.due(denominator, "rise(1) of " + total + " / " + rises, () -> plans.rise(1));
    }

    private static void wrongParts() {
        StairPlans plans = Check.planned(270, 15, 0, 1, 1);
        for (int part : new int[] {-1, 2, Integer.MIN_VALUE, Integer.MAX_VALUE}) {
            Check.due(Check.INDEX, "rise(" + part + ")", () -> plans.rise(part));
        }
        Check.due(Check.STATE, "rise(5) of a new object", () -> new StairPlans().rise(5));
    }
}
