/** Promise 2. */
public final class HeightsTest {
    public static void main(String[] args) {
        whetherAnother();
        leastAndGreatest();
        refusedTotals();
        refusedTotalChangesNothing();
        anotherTotalEndsThePlan();
        sameTotalKeepsThePlan();
        Check.end("HeightsTest");
    }

    private static void whetherAnother() {
        Check.sentence("TOTAL: whether it is another one");
        StairPlans plans = new StairPlans();
        Check.due(false, "heights(270)", () -> plans.heights(270));
        Check.due(true, "heights(271)", () -> plans.heights(271));
        Check.due(false, "heights(271) again", () -> plans.heights(271));
        Check.due(true, "heights(270) again", () -> plans.heights(270));
        // Totals that differ by what a byte or a short would cut.
        Check.due(true, "heights(526)", () -> plans.heights(526));
        Check.due(true, "heights(66062)", () -> plans.heights(66062));
        Check.due(false, "heights(66062) again", () -> plans.heights(66062));
    }

    private static void leastAndGreatest() {
        Check.sentence("IllegalArgumentException: it is not 1 .. 100000 (1 and 100000 are taken)");
        for (long total : new long[] {1, 2, 99999, 100000}) {
            StairPlans plans = new StairPlans();
            Check.due(true, "heights(" + total + ")", () -> plans.heights(total));
            Check.due(false, "heights(" + total + ") again", () -> plans.heights(total));
            Check.read(plans, "n=1");
            plans.run(0, 1, 1);
            Check.due(total, "rise(0) of heights(" + total + ")", () -> plans.rise(0));
        }
    }

    private static void refusedTotals() {
        Check.sentence("IllegalArgumentException: it is not 1 .. 100000");
        for (long total : Check.noNumber(1, 100000)) {
            Check.due(Check.ARGUMENT, "heights(" + total + ")", () -> new StairPlans().heights(total));
        }
    }

    private static void refusedTotalChangesNothing() {
        Check.sentence("A call that throws changes nothing (heights)");
        StairPlans plans = Check.planned(100, 5, 0, 10, 10);
        plans.balusters(1, 10);
        for (long total : Check.noNumber(1, 100000)) {
            Check.due(Check.ARGUMENT, "heights(" + total + ")", () -> plans.heights(total));
            Check.due(20, "rise(0) after heights(" + total + ")", () -> plans.rise(0));
            Check.due(37, "gap(0) after heights(" + total + ")", () -> plans.gap(0));
            Check.due(false, "heights(100) after heights(" + total + ")", () -> plans.heights(100));
        }
    }

    private static void anotherTotalEndsThePlan() {
        Check.sentence("IllegalStateException: it was not PLANNED since TOTAL .. told (another one)");
        StairPlans plans = Check.planned(100, 5, 2, 10, 10);
        plans.balusters(1, 10);
        Check.due(true, "heights(101)", () -> plans.heights(101));
        Check.notPlanned(plans);
        Check.due(true, "heights(100)", () -> plans.heights(100));
        Check.notPlanned(plans);
        Check.due(5, "run", () -> plans.run(0, 10, 10));
        Check.due(20, "rise(0)", () -> plans.rise(0));
    }

    private static void sameTotalKeepsThePlan() {
        Check.sentence("TOTAL: whether it is another one (if not, the plan stays)");
        StairPlans plans = Check.planned(100, 5, 0, 10, 10);
        Check.due(3, "balusters(1, 10)", () -> plans.balusters(1, 10));
        Check.due(false, "heights(100)", () -> plans.heights(100));
        Check.due(20, "rise(0)", () -> plans.rise(0));
        Check.due(37, "gap(0)", () -> plans.gap(0));
    }
}
