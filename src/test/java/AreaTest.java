/** Promise 9. */
public final class AreaTest {
    public static void main(String[] args) {
        for (long width : new long[] {1, 2, 3, 7, 90, 9999, 10000}) {
            areas(width);
        }
        wrongArguments();
        noWinders();
        Check.end("AreaTest");
    }

    private static void areas(long width) {
        StairPlans plans = Check.planned(270, 9, 2, 13, width);
        for (int i = 0; i < 3; i++) {
            int winder = i;
            Check.due(2 * width * width, "area(" + i + ") of " + width, () -> plans.area(winder));
        }
    }

    private static void wrongArguments() {
        StairPlans plans = Check.planned(270, 9, 2, 10, 7);
        for (int winder : new int[] {-1, 3, Integer.MIN_VALUE, Integer.MAX_VALUE}) {
            Check.due(Check.INDEX, "area(" + winder + ")", () -> plans.area(winder));
        }
    }

    private static void noWinders() {
        for (int kind = 0; kind <= 1; kind++) {
            StairPlans plans = Check.planned(270, 9, kind, 10, 7);
            Check.due(Check.STATE, "area(0) of kind " + kind, () -> plans.area(0));
            Check.due(Check.STATE, "area(3) of kind " + kind, () -> plans.area(3));
        }
        Check.due(Check.STATE, "area(-1) of a new object", () -> new StairPlans().area(-1));
    }
}
