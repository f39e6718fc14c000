/** Promise 7. */
public final class StepTest {
    public static void main(String[] args) {
        straight();
        landing();
        shortLandings();
        winders();
        shortWinders();
        largest();
        wrongArguments();
        Check.end("StepTest");
    }

    /** The six answers for one tread: least x, least y, greatest x, greatest y, its shape, its height times n. */
    private static void tread(StairPlans plans, int k, long... want) {
        for (int what = 0; what < want.length; what++) {
            int asked = what;
            Check.due(want[what], "step(" + k + ", " + what + ")", () -> plans.step(k, asked));
        }
    }

    private static void straight() {
        StairPlans plans = Check.planned(100, 4, 0, 30, 80);
        tread(plans, 0, 0, 0, 30, 80, 0, 100);
        tread(plans, 1, 30, 0, 60, 80, 0, 200);
        tread(plans, 2, 60, 0, 90, 80, 0, 300);
        Check.due(Check.INDEX, "step(3, 0)", () -> plans.step(3, 0));
        StairPlans one = Check.planned(100, 1, 0, 30, 80);
        Check.due(Check.INDEX, "step(0, 0) of one rise", () -> one.step(0, 0));
    }

    private static void landing() {
        StairPlans odd = Check.planned(70, 7, 1, 3, 10);
        tread(odd, 0, 0, 0, 3, 10, 0, 70);
        tread(odd, 1, 3, 0, 6, 10, 0, 140);
        tread(odd, 2, 6, 0, 16, 10, 2, 210);
        tread(odd, 3, 6, 10, 16, 13, 1, 280);
        tread(odd, 4, 6, 13, 16, 16, 1, 350);
        tread(odd, 5, 6, 16, 16, 19, 1, 420);
        StairPlans even = Check.planned(70, 6, 1, 3, 10);
        tread(even, 1, 3, 0, 6, 10, 0, 140);
        tread(even, 2, 6, 0, 16, 10, 2, 210);
        tread(even, 4, 6, 13, 16, 16, 1, 350);
        Check.due(Check.INDEX, "step(5, 0)", () -> even.step(5, 0));
    }

    private static void shortLandings() {
        StairPlans two = Check.planned(70, 2, 1, 3, 10);
        tread(two, 0, 0, 0, 10, 10, 2, 70);
        Check.due(Check.INDEX, "step(1, 0)", () -> two.step(1, 0));
        StairPlans three = Check.planned(70, 3, 1, 3, 10);
        tread(three, 0, 0, 0, 10, 10, 2, 70);
        tread(three, 1, 0, 10, 10, 13, 1, 140);
    }

    private static void winders() {
        StairPlans plans = Check.planned(70, 9, 2, 3, 10);
        tread(plans, 0, 0, 0, 3, 10, 0, 70);
        tread(plans, 1, 3, 0, 6, 10, 0, 140);
        tread(plans, 2, 6, 0, 16, 10, 3, 210);
        tread(plans, 3, 6, 0, 16, 10, 3, 280);
        tread(plans, 4, 6, 0, 16, 10, 3, 350);
        tread(plans, 5, 6, 10, 16, 13, 1, 420);
        tread(plans, 6, 6, 13, 16, 16, 1, 490);
        tread(plans, 7, 6, 16, 16, 19, 1, 560);
        Check.due(Check.INDEX, "step(8, 0)", () -> plans.step(8, 0));
    }

    private static void shortWinders() {
        StairPlans four = Check.planned(70, 4, 2, 3, 10);
        tread(four, 0, 0, 0, 10, 10, 3, 70);
        tread(four, 2, 0, 0, 10, 10, 3, 210);
        Check.due(Check.INDEX, "step(3, 0)", () -> four.step(3, 0));
        StairPlans five = Check.planned(70, 5, 2, 3, 10);
        tread(five, 2, 0, 0, 10, 10, 3, 210);
        tread(five, 3, 0, 10, 10, 13, 1, 280);
    }

    private static void largest() {
        tread(Check.planned(100000, 60, 0, 10000, 10000), 58, 580000, 0, 590000, 10000, 0, 5900000);
        tread(Check.planned(100000, 60, 1, 10000, 10000), 58, 290000, 290000, 300000, 300000, 1, 5900000);
        tread(Check.planned(100000, 60, 2, 10000, 10000), 58, 280000, 280000, 290000, 290000, 1, 5900000);
    }

    private static void wrongArguments() {
        StairPlans plans = Check.planned(70, 9, 2, 3, 10);
        for (int k : new int[] {-1, 8, 60, Integer.MIN_VALUE, Integer.MAX_VALUE}) {
            Check.due(Check.INDEX, "step(" + k + ", 0)", () -> plans.step(k, 0));
            Check.due(Check.INDEX, "step(" + k + ", 6)", () -> plans.step(k, 6));
        }
        for (int what : new int[] {-1, 6, Integer.MIN_VALUE, Integer.MAX_VALUE}) {
            Check.due(Check.ARGUMENT, "step(0, " + what + ")", () -> plans.step(0, what));
        }
        Check.due(Check.STATE, "step(-1, -1) of a new object", () -> new StairPlans().step(-1, -1));
    }
}
