/** Promise 11. */
public final class FloorTest {
    private static final long FAR = 1000000;

    public static void main(String[] args) {
        edges();
        roomForEight();
        wrongArguments();
        floorsStay();
        Check.end("FloorTest");
    }

    private static void floor(Object want, StairPlans plans, long x0, long y0, long x1, long y1, long height) {
        Check.due(want, "floor(" + x0 + ", " + y0 + ", " + x1 + ", " + y1 + ", " + height + ")",
                () -> plans.floor(x0, y0, x1, y1, height));
    }

    private static void edges() {
        StairPlans plans = new StairPlans();
        floor(true, plans, -FAR, -FAR, FAR, FAR, FAR);
        floor(true, plans, -FAR, -FAR, 1 - FAR, 1 - FAR, 0);
        floor(true, plans, FAR - 1, FAR - 1, FAR, FAR, 0);
    }

    private static void roomForEight() {
        StairPlans plans = new StairPlans();
        for (int i = 0; i < 8; i++) {
            floor(true, plans, 0, 0, 1, 1, 1000 - i);
        }
        floor(false, plans, 0, 0, 1, 1, 5);
        floor(Check.ARGUMENT, plans, 0, 0, 0, 1, 5);
        Check.read(plans, "n=2");
        plans.run(0, 10, 10);
        Check.due(2 * 993 - 270, "headRoom() under the eighth, not the ninth", () -> plans.headRoom());
    }

    private static void wrongArguments() {
        StairPlans plans = Check.planned(100, 2, 0, 10, 10);
        long[][] wrong = {
            {-FAR - 1, 0, 1, 1, 1}, {0, -FAR - 1, 1, 1, 1}, {0, 0, FAR + 1, 1, 1}, {0, 0, 1, FAR + 1, 1},
            {FAR + 1, 0, FAR + 2, 1, 1}, {0, FAR + 1, 1, FAR + 2, 1},
            {0, 0, 0, 1, 1}, {0, 0, 1, 0, 1}, {1, 0, 0, 1, 1}, {0, 1, 1, 0, 1},
            {0, 0, 1, 1, -1}, {0, 0, 1, 1, FAR + 1}, {0, 0, 1, 1, Long.MIN_VALUE}, {0, 0, 1, 1, Long.MAX_VALUE},
            {Long.MIN_VALUE, 0, 1, 1, 1}, {0, 0, Long.MAX_VALUE, 1, 1}, {0, 0, 1, 1, 1L << 32},
        };
        for (long[] row : wrong) {
            floor(Check.ARGUMENT, plans, row[0], row[1], row[2], row[3], row[4]);
        }
        Check.due(Long.MAX_VALUE, "headRoom() when none was taken", () -> plans.headRoom());
        for (int i = 0; i < 8; i++) {
            floor(true, plans, 0, 0, 1, 1, 1);
        }
    }

    private static void floorsStay() {
        StairPlans plans = Check.planned(100, 2, 0, 10, 10);
        floor(true, plans, 0, 0, 1, 1, 300);
        Check.due(500, "headRoom()", () -> plans.headRoom());
        Check.due(50, "rise(0): a floor keeps the plan", () -> plans.rise(0));
        plans.heights(200);
        Check.read(plans, "n=4");
        plans.run(1, 10, 10);
        Check.due(1000, "headRoom() of another stair", () -> plans.headRoom());
    }
}
