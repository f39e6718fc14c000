/** Promise 16. */
public final class ListTest {
    public static void main(String[] args) {
        list(Check.planned(270, 15, 0, 28, 90), 14, 0, 0, 15);
        list(Check.planned(270, 1, 0, 28, 90), 0, 0, 0, 1);
        list(Check.planned(270, 60, 0, 28, 90), 59, 0, 0, 60);
        list(Check.planned(270, 15, 1, 28, 90), 13, 1, 0, 15);
        list(Check.planned(270, 2, 1, 28, 90), 0, 1, 0, 2);
        list(Check.planned(270, 15, 2, 28, 90), 11, 0, 3, 15);
        list(Check.planned(270, 4, 2, 28, 90), 0, 0, 3, 4);
        wrongLines();
        Check.end("ListTest");
    }

    private static void list(StairPlans plans, int... want) {
        for (int i = 0; i < want.length; i++) {
            int k = i;
            Check.due(want[i], "list(" + i + ")", () -> plans.list(k));
        }
    }

    private static void wrongLines() {
        StairPlans plans = Check.planned(270, 15, 0, 28, 90);
        for (int k : new int[] {-1, 4, Integer.MIN_VALUE, Integer.MAX_VALUE}) {
            Check.due(Check.INDEX, "list(" + k + ")", () -> plans.list(k));
        }
        Check.due(Check.STATE, "list(4) of a new object", () -> new StairPlans().list(4));
    }
}
