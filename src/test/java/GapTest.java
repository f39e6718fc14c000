/** Promise 15. */
public final class GapTest {
    public static void main(String[] args) {
        gap(32, 3, 15, 28, 4, 11);
        gap(0, 1, 15, 28, 4, 0);
        gap(392, 1, 15, 28, 4, 500);
        gap(194, 1, 15, 28, 4, 200);
        gap(0, 1, 1, 28, 4, 0);
        gap(589000, 1001, 60, 10000, 1, 589);
        latestCounts();
        noneFound();
        anotherStair();
        wrongParts();
        Check.end("GapTest");
    }

    private static void gap(long numerator, long denominator, int rises, long going, long thick, long most) {
        StairPlans plans = Check.planned(270, rises, 0, going, 90);
        plans.balusters(thick, most);
        String asked = " of balusters(" + thick + ", " + most + ") over " + (rises - 1) * going;
        Check.due(numerator, "gap(0)" + asked, () -> plans.gap(0));
        Check.due(denominator, "gap(1)" + asked, () -> plans.gap(1));
    }

    private static void latestCounts() {
        StairPlans plans = Check.planned(270, 15, 0, 28, 90);
        Check.due(Check.STATE, "gap(0) before balusters()", () -> plans.gap(0));
        plans.balusters(4, 11);
        plans.balusters(4, 200);
        Check.due(194, "gap(0) of the latest", () -> plans.gap(0));
        Check.due(1, "gap(1) of the latest", () -> plans.gap(1));
    }

    private static void noneFound() {
        StairPlans plans = Check.planned(270, 15, 0, 28, 90);
        plans.balusters(4, 11);
        Check.due(-1, "balusters(1000, 100)", () -> plans.balusters(1000, 100));
        Check.due(Check.STATE, "gap(0)", () -> plans.gap(0));
        Check.due(Check.STATE, "gap(2)", () -> plans.gap(2));
        plans.balusters(4, 11);
        Check.due(32, "gap(0) when some were found again", () -> plans.gap(0));
    }

    private static void anotherStair() {
        StairPlans plans = Check.planned(270, 15, 0, 28, 90);
        plans.balusters(4, 11);
        Check.due(15, "run() of the same stair", () -> plans.run(0, 28, 90));
        Check.due(Check.STATE, "gap(0) of a stair of before", () -> plans.gap(0));
        plans.balusters(4, 11);
        Check.due(Check.ARGUMENT, "run() that throws", () -> plans.run(3, 28, 90));
        Check.due(32, "gap(0), as before", () -> plans.gap(0));
    }

    private static void wrongParts() {
        StairPlans plans = Check.planned(270, 15, 0, 28, 90);
        plans.balusters(4, 11);
        for (int part : new int[] {-1, 2, Integer.MIN_VALUE, Integer.MAX_VALUE}) {
            Check.due(Check.INDEX, "gap(" + part + ")", () -> plans.gap(part));
        }
        Check.due(Check.STATE, "gap(2) of a new object", () -> new StairPlans().gap(2));
    }
}
