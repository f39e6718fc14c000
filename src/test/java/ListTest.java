/** Promise 16. */
public final class ListTest {
    public static void main(String[] args) {
        fewestAndMost();
        everyStair();
        noSuchLine();
        notPlanned();
        Check.end("ListTest");
    }

    private static void list(StairPlans plans, int... want) {
        for (int i = 0; i < want.length; i++) {
            int k = i;
            Check.due(want[i], "list(" + i + ")", () -> plans.list(k));
        }
    }

    private static void fewestAndMost() {
        Check.sentence("how many straight treads, landings, winders, risers there are (the fewest and the most)");
        list(Check.planned(270, 1, 0, 28, 90), 0, 0, 0, 1);
        list(Check.planned(270, 60, 0, 28, 90), 59, 0, 0, 60);
        list(Check.planned(270, 2, 1, 28, 90), 0, 1, 0, 2);
        list(Check.planned(270, 60, 1, 28, 90), 58, 1, 0, 60);
        list(Check.planned(270, 4, 2, 28, 90), 0, 0, 3, 4);
        list(Check.planned(270, 60, 2, 28, 90), 56, 0, 3, 60);
    }

    private static void everyStair() {
        Check.sentence("The cut list");
        for (int n = 1; n <= 60; n++) {
            list(Check.planned(270, n, 0, 28, 90), n - 1, 0, 0, n);
        }
        for (int n = 2; n <= 60; n++) {
            list(Check.planned(270, n, 1, 28, 90), n - 2, 1, 0, n);
        }
        for (int n = 4; n <= 60; n++) {
            list(Check.planned(270, n, 2, 28, 90), n - 4, 0, 3, n);
        }
    }

    private static void noSuchLine() {
        Check.sentence("IndexOutOfBoundsException: there is no such .. line");
        for (int kind = 0; kind <= 2; kind++) {
            StairPlans plans = Check.planned(270, 15, kind, 28, 90);
            for (int k : Check.noIndex(4)) {
                Check.due(Check.INDEX, "list(" + k + ") of kind " + kind, () -> plans.list(k));
            }
            Check.due(15, "list(3) after those", () -> plans.list(3));
        }
    }

    private static void notPlanned() {
        Check.sentence("IllegalStateException (first) (list)");
        for (int k : new int[] {0, 3, -1, 4, Integer.MIN_VALUE, Integer.MAX_VALUE}) {
            Check.due(Check.STATE, "list(" + k + ") of a new object", () -> new StairPlans().list(k));
        }
    }
}
