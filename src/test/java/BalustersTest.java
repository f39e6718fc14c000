import java.math.BigInteger;

/** Promise 14. */
public final class BalustersTest {
    public static void main(String[] args) {
        leastCount();
        notAboveTheMost();
        notBelowNothing();
        noTreads();
        atMost1000();
        none();
        againstAnotherWay();
        greatestMost();
        sameForEveryKind();
        leastAndGreatestThick();
        refusedThick();
        refusedMost();
        refusedCallKeepsTheGap();
        notPlanned();
        Check.end("BalustersTest");
    }

    private static void balusters(Object want, int rises, long going, long thick, long most) {
        StairPlans plans = Check.planned(270, rises, 0, going, 90);
        Check.due(want, "balusters(" + thick + ", " + most + ") over " + (rises - 1) * going,
                () -> plans.balusters(thick, most));
    }

    private static void leastCount() {
        Check.sentence("BALUSTERS over (n - 1) * GOING, each so THICK: the least count c");
        balusters(26, 15, 28, 4, 11);
        balusters(98, 15, 28, 4, 0);
        balusters(0, 15, 28, 4, 392);
        balusters(1, 15, 28, 4, 391);
    }

    private static void notAboveTheMost() {
        Check.sentence("the c + 1 gaps, all the same, are not above the most that is told");
        // Over 392: one of 4 leaves 194 twice; two leave 128 three times; 27 leave 284 / 28, above 10.
        balusters(1, 15, 28, 4, 194);
        balusters(2, 15, 28, 4, 193);
        balusters(2, 15, 28, 4, 128);
        balusters(3, 15, 28, 4, 127);
        balusters(28, 15, 28, 4, 10);
        balusters(0, 2, 10, 1, 10);
        balusters(1, 2, 10, 1, 9);
    }

    private static void notBelowNothing() {
        Check.sentence("(and not below 0)");
        // Over 10: one of 10 leaves gaps of 0, one of 11 has no place.
        balusters(1, 2, 10, 10, 0);
        balusters(1, 2, 10, 10, 9);
        balusters(-1, 2, 10, 11, 0);
        balusters(-1, 2, 10, 11, 9);
        balusters(0, 2, 10, 11, 10);
        balusters(2, 2, 10, 5, 0);
        balusters(-1, 2, 10, 6, 0);
        balusters(1, 2, 10, 6, 2);
        balusters(-1, 2, 10, 6, 1);
    }

    private static void noTreads() {
        Check.sentence("BALUSTERS over (n - 1) * GOING (over nothing)");
        balusters(0, 1, 10, 3, 0);
        balusters(0, 1, 10, 1000, 5);
        balusters(0, 1, 10000, 1, Long.MAX_VALUE);
    }

    private static void atMost1000() {
        Check.sentence("the least count c (0 .. 1000)");
        // 1000 of 1 over 590000 leave 589000 / 1001, which is 588.4.
        balusters(1000, 60, 10000, 1, 589);
        balusters(-1, 60, 10000, 1, 588);
        balusters(1000, 60, 10000, 590, 0);
        balusters(-1, 60, 10000, 589, 0);
        balusters(999, 2, 999, 1, 0);
        balusters(1000, 2, 1000, 1, 0);
        balusters(-1, 2, 1001, 1, 0);
        balusters(1000, 2, 2001, 1, 1);
        balusters(-1, 2, 2002, 1, 1);
    }

    private static void none() {
        Check.sentence("NONE if there are none such");
        balusters(StairPlans.NONE, 15, 28, 1000, 100);
        balusters(StairPlans.NONE, 2, 10, 3, 0);
        balusters(StairPlans.NONE, 2, 1, 1000, 0);
        balusters(StairPlans.NONE, 60, 10000, 1, 0);
    }

    private static void againstAnotherWay() {
        Check.sentence("the least count c (against another way to find it)");
        for (long going : new long[] {1, 2, 7, 30, 999, 1000, 1001, 9999, 10000}) {
            for (long thick : new long[] {1, 2, 3, 9, 500, 999, 1000}) {
                for (long most : new long[] {0, 1, 2, 5, 29, 30, 499, 500, 9999, 10000, 89999, 90000, 1L << 62}) {
                    balusters(least(9 * going, thick, most), 10, going, thick, most);
                }
            }
        }
    }

    private static int least(long length, long thick, long most) {
        for (int count = 0; count <= 1000; count++) {
            BigInteger open = BigInteger.valueOf(length - count * thick);
            BigInteger allowed = BigInteger.valueOf(most).multiply(BigInteger.valueOf(count + 1));
            if (open.signum() >= 0 && open.compareTo(allowed) <= 0) {
                return count;
            }
        }
        return StairPlans.NONE;
    }

    private static void greatestMost() {
        Check.sentence("or most below 0 (the greatest long is taken, and no product wraps)");
        balusters(0, 60, 10000, 1000, Long.MAX_VALUE);
        balusters(0, 60, 10000, 1000, Long.MAX_VALUE / 2 + 1);
        balusters(0, 60, 10000, 1, Long.MAX_VALUE / 1001 + 1);
        balusters(0, 60, 10000, 1, 1L << 32);
        balusters(0, 60, 10000, 1, 590000);
        balusters(1, 60, 10000, 1, 589999);
        balusters(0, 1, 1, 1, 0);
    }

    private static void sameForEveryKind() {
        Check.sentence("BALUSTERS over (n - 1) * GOING (whatever the kind)");
        for (int kind = 0; kind <= 2; kind++) {
            StairPlans plans = Check.planned(270, 15, kind, 28, 90);
            Check.due(26, "balusters(4, 11) of kind " + kind, () -> plans.balusters(4, 11));
        }
    }

    private static void leastAndGreatestThick() {
        Check.sentence("thick is not 1 .. 1000 (the last ones that are taken)");
        balusters(10, 2, 10, 1, 0);
        balusters(9, 10, 1000, 1000, 0);
        balusters(590, 60, 10000, 1000, 0);
    }

    private static void refusedThick() {
        Check.sentence("IllegalArgumentException: thick is not 1 .. 1000");
        StairPlans plans = Check.planned(270, 15, 0, 28, 90);
        for (long thick : Check.noNumber(1, 1000)) {
            Check.due(Check.ARGUMENT, "balusters(" + thick + ", 5)", () -> plans.balusters(thick, 5));
            Check.due(Check.ARGUMENT, "balusters(" + thick + ", 500)", () -> plans.balusters(thick, 500));
        }
    }

    private static void refusedMost() {
        Check.sentence("IllegalArgumentException: .. most below 0");
        StairPlans plans = Check.planned(270, 15, 0, 28, 90);
        for (long most : Check.noNumber(0, Long.MAX_VALUE)) {
            Check.due(Check.ARGUMENT, "balusters(1, " + most + ")", () -> plans.balusters(1, most));
            Check.due(Check.ARGUMENT, "balusters(0, " + most + ")", () -> plans.balusters(0, most));
        }
        StairPlans level = Check.planned(270, 1, 0, 28, 90);
        Check.due(Check.ARGUMENT, "balusters(1, -1) over nothing", () -> level.balusters(1, -1));
    }

    private static void refusedCallKeepsTheGap() {
        Check.sentence("A call that throws changes nothing (balusters)");
        StairPlans plans = Check.planned(270, 15, 0, 28, 90);
        Check.due(Check.ARGUMENT, "balusters(0, 11)", () -> plans.balusters(0, 11));
        Check.due(Check.STATE, "gap(0), as before", () -> plans.gap(0));
        plans.balusters(4, 11);
        for (long[] row : new long[][] {{0, 11}, {1001, 11}, {4, -1}, {1001, -1}}) {
            Check.due(Check.ARGUMENT, "balusters(" + row[0] + ", " + row[1] + ")",
                    () -> plans.balusters(row[0], row[1]));
            Check.due(32, "gap(0), as before", () -> plans.gap(0));
            Check.due(3, "gap(1), as before", () -> plans.gap(1));
        }
    }

    private static void notPlanned() {
        Check.sentence("IllegalStateException (first) (balusters)");
        long[][] asked = {{1, 1}, {0, 1}, {1001, 1}, {1, -1}, {0, -1}, {Long.MIN_VALUE, Long.MIN_VALUE},
            {Long.MAX_VALUE, Long.MAX_VALUE}};
        for (long[] row : asked) {
            Check.due(Check.STATE, "balusters(" + row[0] + ", " + row[1] + ") of a new object",
                    () -> new StairPlans().balusters(row[0], row[1]));
        }
    }
}
