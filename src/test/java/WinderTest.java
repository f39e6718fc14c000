/** Promise 8. */
public final class WinderTest {
    public static void main(String[] args) {
        edges(Check.planned(270, 4, 2, 10, 7), 0, 0, 14, 0, 21, 7, 21, 21);
        edges(Check.planned(270, 5, 2, 10, 7), 0, 0, 14, 0, 21, 7, 21, 21);
        edges(Check.planned(270, 9, 2, 10, 7), 60, 0, 74, 0, 81, 7, 81, 21);
        edges(Check.planned(270, 60, 2, 10000, 10000), 840000, 0, 860000, 0, 870000, 10000, 870000, 30000);
        wrongArguments();
        noWinders();
        Check.end("WinderTest");
    }

    private static void edges(StairPlans plans, long... want) {
        for (int i = 0; i < want.length; i++) {
            int edge = i / 2;
            int axis = i % 2;
            Check.due(want[i], "winder(" + edge + ", " + axis + ")", () -> plans.winder(edge, axis));
        }
    }

    private static void wrongArguments() {
        StairPlans plans = Check.planned(270, 9, 2, 10, 7);
        int[][] wrong = {{-1, 0}, {4, 0}, {0, -1}, {0, 2}, {4, 2}, {Integer.MIN_VALUE, 1}, {3, Integer.MAX_VALUE}};
        for (int[] row : wrong) {
            Check.due(Check.INDEX, "winder(" + row[0] + ", " + row[1] + ")", () -> plans.winder(row[0], row[1]));
        }
    }

    private static void noWinders() {
        for (int kind = 0; kind <= 1; kind++) {
            StairPlans plans = Check.planned(270, 9, kind, 10, 7);
            Check.due(Check.STATE, "winder(0, 0) of kind " + kind, () -> plans.winder(0, 0));
            Check.due(Check.STATE, "winder(4, 2) of kind " + kind, () -> plans.winder(4, 2));
        }
        Check.due(Check.STATE, "winder(-1, 0) of a new object", () -> new StairPlans().winder(-1, 0));
    }
}
