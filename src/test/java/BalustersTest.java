/** Promise 14. */
public final class BalustersTest {
    public static void main(String[] args) {
        counts();
        none();
        atMost1000();
        greatMost();
        sameForEveryKind();
        wrongArguments();
        Check.end("BalustersTest");
    }

    private static void balusters(Object want, int rises, long going, long thick, long most) {
        StairPlans plans = Check.planned(270, rises, 0, going, 90);
        Check.due(want, "balusters(" + thick + ", " + most + ") over " + (rises - 1) * going,
                () -> plans.balusters(thick, most));
    }

    private static void counts() {
        balusters(26, 15, 28, 4, 11);
        balusters(98, 15, 28, 4, 0);
        balusters(0, 15, 28, 4, 392);
        balusters(1, 15, 28, 4, 391);
        balusters(1, 15, 28, 4, 194);
        balusters(2, 15, 28, 4, 193);
        // Over 10: one of 10 leaves gaps of 0.
        balusters(1, 2, 10, 10, 0);
        balusters(0, 1, 10, 3, 0);
        balusters(0, 1, 10, 1000, 5);
    }

    private static void none() {
        balusters(-1, 15, 28, 1000, 100);
        balusters(-1, 2, 10, 3, 0);
        balusters(-1, 2, 10, 11, 9);
        balusters(0, 2, 10, 11, 10);
    }

    private static void atMost1000() {
        balusters(1000, 60, 10000, 1, 589);
        balusters(-1, 60, 10000, 1, 588);
        balusters(590, 60, 10000, 1000, 0);
        balusters(1000, 60, 10000, 590, 0);
        balusters(-1, 60, 10000, 589, 0);
        balusters(1000, 2, 1000, 1, 0);
        balusters(-1, 2, 1001, 1, 0);
    }

    private static void greatMost() {
        balusters(0, 60, 10000, 1000, Long.MAX_VALUE);
        balusters(0, 60, 10000, 1000, Long.MAX_VALUE / 2 + 1);
        balusters(0, 60, 10000, 1, 590000);
        balusters(1, 60, 10000, 1, 589999);
    }

    private static void sameForEveryKind() {
        for (int kind = 0; kind <= 2; kind++) {
            StairPlans plans = Check.planned(270, 15, kind, 28, 90);
            Check.due(26, "balusters(4, 11) of kind " + kind, () -> plans.balusters(4, 11));
        }
    }

    private static void wrongArguments() {
        StairPlans plans = Check.planned(270, 15, 0, 28, 90);
        plans.balusters(4, 11);
        long[][] wrong = {
            {0, 5}, {1001, 5}, {-1, 5}, {Long.MIN_VALUE, 5}, {Long.MAX_VALUE, 5}, {(1L << 32) + 1, 5},
            {1, -1}, {1, Long.MIN_VALUE}, {0, -1},
        };
        for (long[] row : wrong) {
            Check.due(Check.ARGUMENT, "balusters(" + row[0] + ", " + row[1] + ")",
                    () -> plans.balusters(row[0], row[1]));
        }
        Check.due(32, "gap(0), as before", () -> plans.gap(0));
        Check.due(Check.STATE, "balusters(0, -1) of a new object", () -> new StairPlans().balusters(0, -1));
    }
}
