/** Promise 9. */
public final class AreaTest {
    public static void main(String[] args) {
        areas();
        sameForEveryStair();
        noSuchWinder();
        noWinders();
        notPlanned();
        Check.end("AreaTest");
    }

    private static void areas(StairPlans plans, long want) {
        for (int i = 0; i < 3; i++) {
            int winder = i;
            Check.due(want, "area(" + i + ")", () -> plans.area(winder));
        }
    }

    private static void areas() {
        Check.sentence("Twice the area of winder i times 3 (of the least WIDTH and of the greatest)");
        for (long width : new long[] {1, 2, 3, 7, 90, 9999, 10000}) {
            areas(Check.planned(270, 9, 2, 13, width), 2 * width * width);
        }
    }

    private static void sameForEveryStair() {
        Check.sentence("winder i (0, 1, 2) lies between two edges next to one another (wherever the square lies)");
        for (int n : new int[] {4, 5, 6, 59, 60}) {
            areas(Check.planned(270, n, 2, 10000, 7), 98);
            areas(Check.planned(1, n, 2, 1, 7), 98);
        }
    }

    private static void noSuchWinder() {
        Check.sentence("IndexOutOfBoundsException: there is no such .. winder");
        StairPlans plans = Check.planned(270, 9, 2, 10, 7);
        for (int winder : Check.noIndex(3)) {
            Check.due(Check.INDEX, "area(" + winder + ")", () -> plans.area(winder));
        }
        areas(plans, 98);
    }

    private static void noWinders() {
        Check.sentence("IllegalStateException: as winder() (first) (no winders)");
        for (int kind = 0; kind <= 1; kind++) {
            StairPlans plans = Check.planned(270, 9, kind, 10, 7);
            for (int winder : new int[] {0, 2, -1, 3, Integer.MIN_VALUE, Integer.MAX_VALUE}) {
                Check.due(Check.STATE, "area(" + winder + ") of kind " + kind, () -> plans.area(winder));
            }
        }
        StairPlans before = Check.planned(270, 9, 2, 10, 7);
        before.run(0, 10, 7);
        Check.due(Check.STATE, "area(0) when the winders were of a stair before", () -> before.area(0));
    }

    private static void notPlanned() {
        Check.sentence("IllegalStateException: as winder() (first) (not PLANNED)");
        for (int winder : new int[] {0, 2, -1, 3, Integer.MIN_VALUE, Integer.MAX_VALUE}) {
            Check.due(Check.STATE, "area(" + winder + ") of a new object", () -> new StairPlans().area(winder));
        }
    }
}
