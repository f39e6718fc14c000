/** Promise 8, and the sentence on where WINDERS lie. */
public final class WinderTest {
    public static void main(String[] args) {
        thirds();
        corners();
        smallestAndLargest();
        noSuchEdge();
        noSuchAxis();
        noWinders();
        notPlanned();
        Check.end("WinderTest");
    }

    private static void edges(StairPlans plans, long... want) {
        for (int i = 0; i < want.length; i++) {
            int edge = i / 2;
            int axis = i % 2;
            Check.due(want[i], "winder(" + edge + ", " + axis + ")", () -> plans.winder(edge, axis));
        }
    }

    private static void thirds() {
        Check.sentence("in thirds of both together: 0, 2 / 3, 4 / 3, 2 of WIDTH");
        for (long width : new long[] {1, 2, 3, 7, 90, 9999, 10000}) {
            edges(Check.planned(270, 4, 2, 10, width),
                    0, 0, 2 * width, 0, 3 * width, width, 3 * width, 3 * width);
        }
    }

    private static void corners() {
        Check.sentence("from x = M * GOING, y = 0 along x and then up");
        for (int n = 4; n <= 60; n++) {
            long x = 3L * 10 * ((n - 4) / 2);
            edges(Check.planned(270, n, 2, 10, 7), x, 0, x + 14, 0, x + 21, 7, x + 21, 21);
        }
    }

    private static void smallestAndLargest() {
        Check.sentence("The outer place of an edge .. times 3 (the least and the greatest)");
        edges(Check.planned(1, 60, 2, 1, 1), 84, 0, 86, 0, 87, 1, 87, 3);
        edges(Check.planned(270, 60, 2, 10000, 10000), 840000, 0, 860000, 0, 870000, 10000, 870000, 30000);
    }

    private static void noSuchEdge() {
        Check.sentence("an edge 0 .. 3 of the winders; IndexOutOfBoundsException");
        StairPlans plans = Check.planned(270, 9, 2, 10, 7);
        for (int edge : Check.noIndex(4)) {
            for (int axis = 0; axis <= 1; axis++) {
                int asked = axis;
                Check.due(Check.INDEX, "winder(" + edge + ", " + axis + ")", () -> plans.winder(edge, asked));
            }
        }
        edges(plans, 60, 0, 74, 0, 81, 7, 81, 21);
    }

    private static void noSuchAxis() {
        Check.sentence("on an axis (0 x, 1 y); IndexOutOfBoundsException");
        StairPlans plans = Check.planned(270, 9, 2, 10, 7);
        for (int axis : Check.noIndex(2)) {
            for (int edge = -1; edge <= 4; edge++) {
                int asked = edge;
                Check.due(Check.INDEX, "winder(" + edge + ", " + axis + ")", () -> plans.winder(asked, axis));
            }
        }
    }

    private static void noWinders() {
        Check.sentence("IllegalStateException: .. no winders (first) (winder)");
        for (int kind = 0; kind <= 1; kind++) {
            StairPlans plans = Check.planned(270, 9, kind, 10, 7);
            for (int edge : new int[] {0, 3, -1, 4, Integer.MIN_VALUE, Integer.MAX_VALUE}) {
                Check.due(Check.STATE, "winder(" + edge + ", 0) of kind " + kind, () -> plans.winder(edge, 0));
                Check.due(Check.STATE, "winder(" + edge + ", 2) of kind " + kind, () -> plans.winder(edge, 2));
            }
        }
        StairPlans before = Check.planned(270, 9, 2, 10, 7);
        before.run(1, 10, 7);
        Check.due(Check.STATE, "winder(0, 0) when the winders were of a stair before", () -> before.winder(0, 0));
    }

    private static void notPlanned() {
        Check.sentence("IllegalStateException: not PLANNED (first) (winder)");
        for (int edge : new int[] {0, 3, -1, 4, Integer.MIN_VALUE, Integer.MAX_VALUE}) {
            Check.due(Check.STATE, "winder(" + edge + ", 0) of a new object", () -> new StairPlans().winder(edge, 0));
            Check.due(Check.STATE, "winder(" + edge + ", 2) of a new object", () -> new StairPlans().winder(edge, 2));
        }
    }
}
