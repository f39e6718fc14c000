/** Promise 15. */
public final class GapTest {
    public static void main(String[] args) {
        withoutACommonDivisor();
        nothingBetween();
        wholeLength();
        smallestAndLargest();
        latestCounts();
        notAskedFor();
        noneFound();
        anotherStair();
        sameStairAgain();
        notPlannedAnyMore();
        noStairFound();
        noSuchPart();
        Check.end("GapTest");
    }

    private static void gap(long numerator, long denominator, int rises, long going, long thick, long most) {
        StairPlans plans = Check.planned(270, rises, 0, going, 90);
        plans.balusters(thick, most);
        String asked = " of balusters(" + thick + ", " + most + ") over " + (rises - 1) * going;
        Check.due(numerator, "gap(0)" + asked, () -> plans.gap(0));
        Check.due(denominator, "gap(1)" + asked, () -> plans.gap(1));
    }

    private static void withoutACommonDivisor() {
        Check.sentence("its numerator (part = 0), its denominator (1), without a common divisor");
        gap(32, 3, 15, 28, 4, 11);
        gap(194, 1, 15, 28, 4, 200);
        gap(9, 2, 2, 10, 1, 5);
        gap(8, 3, 2, 10, 1, 3);
    }

    private static void nothingBetween() {
        Check.sentence("(and not below 0) (a gap of 0 is 0 / 1)");
        gap(0, 1, 15, 28, 4, 0);
        gap(0, 1, 2, 10, 10, 0);
        gap(0, 1, 60, 10000, 590, 0);
        gap(0, 1, 1, 28, 4, 0);
        gap(0, 1, 1, 28, 4, Long.MAX_VALUE);
    }

    private static void wholeLength() {
        Check.sentence("The gap of the latest balusters() (of none at all the whole length)");
        gap(392, 1, 15, 28, 4, 392);
        gap(392, 1, 15, 28, 4, 500);
        gap(392, 1, 15, 28, 1000, Long.MAX_VALUE);
    }

    private static void smallestAndLargest() {
        Check.sentence("The gap (the greatest numerator and the greatest denominator)");
        gap(590000, 1, 60, 10000, 1000, 590000);
        gap(589000, 1001, 60, 10000, 1, 589);
        gap(1, 1, 2, 2001, 1, 1);
        gap(1000, 1001, 2, 2000, 1, 1);
    }

    private static void latestCounts() {
        Check.sentence("The gap of the latest balusters()");
        StairPlans plans = Check.planned(270, 15, 0, 28, 90);
        plans.balusters(4, 11);
        plans.balusters(4, 200);
        Check.due(194, "gap(0) of the latest", () -> plans.gap(0));
        Check.due(1, "gap(1) of the latest", () -> plans.gap(1));
        plans.balusters(4, 11);
        Check.due(32, "gap(0) of the one before again", () -> plans.gap(0));
        Check.due(3, "gap(1) of the one before again", () -> plans.gap(1));
    }

    private static void notAskedFor() {
        Check.sentence("IllegalStateException: it was not asked for (first)");
        StairPlans plans = Check.planned(270, 15, 0, 28, 90);
        for (int part : new int[] {0, 1, -1, 2, Integer.MIN_VALUE, Integer.MAX_VALUE}) {
            Check.due(Check.STATE, "gap(" + part + ") of a new object", () -> new StairPlans().gap(part));
            Check.due(Check.STATE, "gap(" + part + ") before balusters()", () -> plans.gap(part));
        }
    }

    private static void noneFound() {
        Check.sentence("IllegalStateException: .. found none (first)");
        StairPlans plans = Check.planned(270, 15, 0, 28, 90);
        plans.balusters(4, 11);
        Check.due(-1, "balusters(1000, 100)", () -> plans.balusters(1000, 100));
        for (int part : new int[] {0, 1, -1, 2, Integer.MIN_VALUE, Integer.MAX_VALUE}) {
            Check.due(Check.STATE, "gap(" + part + ")", () -> plans.gap(part));
        }
        plans.balusters(4, 11);
        Check.due(32, "gap(0) when some were found again", () -> plans.gap(0));
    }

    private static void anotherStair() {
        Check.sentence("IllegalStateException: .. another stair was PLANNED since (first)");
        // Over 27 * 14 the gap is 278 / 26, over 28 * 14 it is 288 / 27.
        long[][] others = {{0, 27, 90, 13}, {0, 28, 91, 3}, {1, 28, 90, 3}, {2, 28, 90, 3}};
        for (long[] other : others) {
            StairPlans plans = Check.planned(270, 15, 0, 28, 90);
            plans.balusters(4, 11);
            Check.due(15, "run() of another stair", () -> plans.run((int) other[0], other[1], other[2]));
            for (int part : new int[] {0, 1, -1, 2}) {
                Check.due(Check.STATE, "gap(" + part + ") of a stair before", () -> plans.gap(part));
            }
            plans.balusters(4, 11);
            Check.due(other[3], "gap(1) of the other stair", () -> plans.gap(1));
        }
    }

    private static void sameStairAgain() {
        Check.sentence("IllegalStateException: .. another stair was PLANNED since (by the same call)");
        StairPlans plans = Check.planned(270, 15, 0, 28, 90);
        plans.balusters(4, 11);
        Check.due(15, "run() of the same stair", () -> plans.run(0, 28, 90));
        Check.due(Check.STATE, "gap(0) of a stair before", () -> plans.gap(0));
    }

    private static void notPlannedAnyMore() {
        Check.sentence("IllegalStateException: it was not PLANNED since TOTAL or rules were told (gap)");
        StairPlans told = Check.planned(270, 15, 0, 28, 90);
        told.balusters(4, 11);
        told.heights(271);
        Check.due(Check.STATE, "gap(0) behind heights()", () -> told.gap(0));
        told.heights(270);
        Check.due(Check.STATE, "gap(0) behind heights() of before", () -> told.gap(0));
        StairPlans read = Check.planned(270, 15, 0, 28, 90);
        read.balusters(4, 11);
        Check.read(read, "n=15");
        Check.due(Check.STATE, "gap(0) behind rules()", () -> read.gap(0));
        StairPlans same = Check.planned(270, 15, 0, 28, 90);
        same.balusters(4, 11);
        same.heights(270);
        Check.read(same, "n=15;");
        Check.due(32, "gap(0) behind the same TOTAL and a text that is refused", () -> same.gap(0));
    }

    private static void noStairFound() {
        Check.sentence("-1 less a RULE, if there is none (then it is not PLANNED) (gap)");
        StairPlans plans = Check.withRules("n<4");
        Check.due(1, "run(0, 28, 90)", () -> plans.run(0, 28, 90));
        plans.balusters(4, 11);
        Check.due(-1, "run(2, 28, 90)", () -> plans.run(2, 28, 90));
        for (int part : new int[] {0, 1, -1, 2}) {
            Check.due(Check.STATE, "gap(" + part + ") when no stair was found", () -> plans.gap(part));
        }
        plans.run(0, 28, 90);
        Check.due(Check.STATE, "gap(0) when the stair of before was PLANNED again", () -> plans.gap(0));
    }

    private static void noSuchPart() {
        Check.sentence("(part = 0), its denominator (1); IndexOutOfBoundsException (gap)");
        StairPlans plans = Check.planned(270, 15, 0, 28, 90);
        plans.balusters(4, 11);
        for (int part : Check.noIndex(2)) {
            Check.due(Check.INDEX, "gap(" + part + ")", () -> plans.gap(part));
        }
        Check.due(32, "gap(0) after those", () -> plans.gap(0));
        Check.due(3, "gap(1) after those", () -> plans.gap(1));
    }
}
