/** Promise 2. */
public final class HeightsTest {
    public static void main(String[] args) {
        edges();
        anotherTotalEndsThePlan();
        sameTotalKeepsThePlan();
        wrongTotalChangesNothing();
        Check.end("HeightsTest");
    }

    private static void edges() {
        StairPlans plans = new StairPlans();
        Check.due(true, "heights(1)", () -> plans.heights(1));
        Check.due(false, "heights(1) again", () -> plans.heights(1));
        Check.due(true, "heights(100000)", () -> plans.heights(100000));
        Check.due(true, "heights(270)", () -> plans.heights(270));
        for (long total : new long[] {0, -1, 100001, Long.MIN_VALUE, Long.MAX_VALUE, (1L << 32) + 5}) {
            Check.due(Check.ARGUMENT, "heights(" + total + ")", () -> plans.heights(total));
        }
    }

    private static void anotherTotalEndsThePlan() {
        StairPlans plans = Check.planned(100, 5, 2, 10, 10);
        plans.balusters(1, 10);
        Check.due(true, "heights(101)", () -> plans.heights(101));
        Check.due(true, "heights(100)", () -> plans.heights(100));
        Check.notPlanned(plans);
        Check.due(5, "run", () -> plans.run(0, 10, 10));
        Check.due(20, "rise(0)", () -> plans.rise(0));
    }

    private static void sameTotalKeepsThePlan() {
        StairPlans plans = Check.planned(100, 5, 0, 10, 10);
        Check.due(3, "balusters(1, 10)", () -> plans.balusters(1, 10));
        Check.due(false, "heights(100)", () -> plans.heights(100));
        Check.due(20, "rise(0)", () -> plans.rise(0));
        Check.due(37, "gap(0)", () -> plans.gap(0));
    }

    private static void wrongTotalChangesNothing() {
        StairPlans plans = Check.planned(100, 5, 0, 10, 10);
        Check.due(Check.ARGUMENT, "heights(0)", () -> plans.heights(0));
        Check.due(20, "rise(0)", () -> plans.rise(0));
        Check.due(false, "heights(100)", () -> plans.heights(100));
    }
}
