/** Promise 7, and the sentences on where treads lie. */
public final class StepTest {
    public static void main(String[] args) {
        straight();
        landing();
        shortLandings();
        whereLandingsLie();
        winders();
        shortWinders();
        whereWindersLie();
        heights();
        smallest();
        largest();
        noTreads();
        noSuchTread();
        anotherWhat();
        notPlanned();
        Check.end("StepTest");
    }

    /** The six answers for one tread: least x, least y, greatest x, greatest y, its shape, its height times n. */
    private static void tread(StairPlans plans, int k, long... want) {
        for (int what = 0; what < want.length; what++) {
            int asked = what;
            Check.due(want[what], "step(" + k + ", " + what + ")", () -> plans.step(k, asked));
        }
    }

    private static void straight() {
        Check.sentence("STRAIGHT (0): tread k goes from x = k * GOING on along x, from y = 0 to WIDTH");
        StairPlans plans = Check.planned(100, 4, 0, 30, 80);
        tread(plans, 0, 0, 0, 30, 80, 0, 100);
        tread(plans, 1, 30, 0, 60, 80, 0, 200);
        tread(plans, 2, 60, 0, 90, 80, 0, 300);
    }

    private static void landing() {
        Check.sentence("With a LANDING (1): the first M = (n - 2) / 2 (cut off) treads so");
        StairPlans odd = Check.planned(70, 7, 1, 3, 10);
        tread(odd, 0, 0, 0, 3, 10, 0, 70);
        tread(odd, 1, 3, 0, 6, 10, 0, 140);
        tread(odd, 2, 6, 0, 16, 10, 2, 210);
        tread(odd, 3, 6, 10, 16, 13, 1, 280);
        tread(odd, 4, 6, 13, 16, 16, 1, 350);
        tread(odd, 5, 6, 16, 16, 19, 1, 420);
        StairPlans even = Check.planned(70, 6, 1, 3, 10);
        tread(even, 1, 3, 0, 6, 10, 0, 140);
        tread(even, 2, 6, 0, 16, 10, 2, 210);
        tread(even, 3, 6, 10, 16, 13, 1, 280);
        tread(even, 4, 6, 13, 16, 16, 1, 350);
    }

    private static void shortLandings() {
        Check.sentence("M = (n - 2) / 2 (of the fewest RISES: no tread before the square, none behind it)");
        StairPlans two = Check.planned(70, 2, 1, 3, 10);
        tread(two, 0, 0, 0, 10, 10, 2, 70);
        Check.due(Check.INDEX, "step(1, 0)", () -> two.step(1, 0));
        StairPlans three = Check.planned(70, 3, 1, 3, 10);
        tread(three, 0, 0, 0, 10, 10, 2, 70);
        tread(three, 1, 0, 10, 10, 13, 1, 140);
        Check.due(Check.INDEX, "step(2, 0)", () -> three.step(2, 0));
        StairPlans four = Check.planned(70, 4, 1, 3, 10);
        tread(four, 0, 0, 0, 3, 10, 0, 70);
        tread(four, 1, 3, 0, 13, 10, 2, 140);
        tread(four, 2, 3, 10, 13, 13, 1, 210);
    }

    private static void whereLandingsLie() {
        Check.sentence("tread M is the square .. each further one, from y = WIDTH on, GOING along y");
        for (int n = 2; n <= 60; n++) {
            StairPlans plans = Check.planned(70, n, 1, 3, 10);
            int m = (n - 2) / 2;
            for (int k = 0; k < n - 1; k++) {
                long height = 70L * (k + 1);
                if (k < m) {
                    tread(plans, k, 3L * k, 0, 3L * k + 3, 10, 0, height);
                } else if (k == m) {
                    tread(plans, k, 3L * m, 0, 3L * m + 10, 10, 2, height);
                } else {
                    long y = 10 + 3L * (k - m - 1);
                    tread(plans, k, 3L * m, y, 3L * m + 10, y + 3, 1, height);
                }
            }
        }
    }

    private static void winders() {
        Check.sentence("With WINDERS (2): the first M = (n - 4) / 2 so, treads M, M + 1, M + 2 are winders");
        StairPlans plans = Check.planned(70, 9, 2, 3, 10);
        tread(plans, 0, 0, 0, 3, 10, 0, 70);
        tread(plans, 1, 3, 0, 6, 10, 0, 140);
        tread(plans, 2, 6, 0, 16, 10, 3, 210);
        tread(plans, 3, 6, 0, 16, 10, 3, 280);
        tread(plans, 4, 6, 0, 16, 10, 3, 350);
        tread(plans, 5, 6, 10, 16, 13, 1, 420);
        tread(plans, 6, 6, 13, 16, 16, 1, 490);
        tread(plans, 7, 6, 16, 16, 19, 1, 560);
    }

    private static void shortWinders() {
        Check.sentence("M = (n - 4) / 2 (of the fewest RISES: no tread before the winders, none behind them)");
        StairPlans four = Check.planned(70, 4, 2, 3, 10);
        tread(four, 0, 0, 0, 10, 10, 3, 70);
        tread(four, 1, 0, 0, 10, 10, 3, 140);
        tread(four, 2, 0, 0, 10, 10, 3, 210);
        Check.due(Check.INDEX, "step(3, 0)", () -> four.step(3, 0));
        StairPlans five = Check.planned(70, 5, 2, 3, 10);
        tread(five, 0, 0, 0, 10, 10, 3, 70);
        tread(five, 2, 0, 0, 10, 10, 3, 210);
        tread(five, 3, 0, 10, 10, 13, 1, 280);
        Check.due(Check.INDEX, "step(4, 0)", () -> five.step(4, 0));
        StairPlans six = Check.planned(70, 6, 2, 3, 10);
        tread(six, 0, 0, 0, 3, 10, 0, 70);
        tread(six, 1, 3, 0, 13, 10, 3, 140);
        tread(six, 3, 3, 0, 13, 10, 3, 280);
        tread(six, 4, 3, 10, 13, 13, 1, 350);
    }

    private static void whereWindersLie() {
        Check.sentence("treads M, M + 1, M + 2 are winders in that square, then the others");
        for (int n = 4; n <= 60; n++) {
            StairPlans plans = Check.planned(70, n, 2, 3, 10);
            int m = (n - 4) / 2;
            for (int k = 0; k < n - 1; k++) {
                long height = 70L * (k + 1);
                if (k < m) {
                    tread(plans, k, 3L * k, 0, 3L * k + 3, 10, 0, height);
                } else if (k <= m + 2) {
                    tread(plans, k, 3L * m, 0, 3L * m + 10, 10, 3, height);
                } else {
                    long y = 10 + 3L * (k - m - 3);
                    tread(plans, k, 3L * m, y, 3L * m + 10, y + 3, 1, height);
                }
            }
        }
    }

    private static void heights() {
        Check.sentence("tread k (0 .. n - 2) at the height (k + 1) * TOTAL / n (its height times n)");
        for (int kind = 0; kind <= 2; kind++) {
            StairPlans plans = Check.planned(99999, 60, kind, 3, 10);
            for (int k = 0; k <= 58; k++) {
                int tread = k;
                Check.due(99999L * (k + 1), "step(" + k + ", 5) of kind " + kind, () -> plans.step(tread, 5));
            }
        }
    }

    private static void smallest() {
        Check.sentence("going or width not 1 .. 10000 (the smallest treads)");
        tread(Check.planned(1, 2, 0, 1, 1), 0, 0, 0, 1, 1, 0, 1);
        tread(Check.planned(1, 2, 1, 1, 1), 0, 0, 0, 1, 1, 2, 1);
        tread(Check.planned(1, 60, 2, 1, 1), 58, 28, 28, 29, 29, 1, 59);
    }

    private static void largest() {
        Check.sentence("going or width not 1 .. 10000 (the largest treads)");
        tread(Check.planned(100000, 60, 0, 10000, 10000), 58, 580000, 0, 590000, 10000, 0, 5900000);
        tread(Check.planned(100000, 60, 1, 10000, 10000), 58, 290000, 290000, 300000, 300000, 1, 5900000);
        tread(Check.planned(100000, 60, 2, 10000, 10000), 58, 280000, 280000, 290000, 290000, 1, 5900000);
    }

    private static void noTreads() {
        Check.sentence("between them there are n - 1 TREADS (of one RISE none)");
        StairPlans one = Check.planned(100, 1, 0, 30, 80);
        for (int what = -1; what <= 6; what++) {
            int asked = what;
            Check.due(Check.INDEX, "step(0, " + what + ") of one rise", () -> one.step(0, asked));
        }
    }

    private static void noSuchTread() {
        Check.sentence("IndexOutOfBoundsException: there is no such .. tread");
        int[][] stairs = {{0, 2}, {0, 15}, {0, 60}, {1, 2}, {1, 60}, {2, 4}, {2, 60}};
        for (int[] row : stairs) {
            StairPlans plans = Check.planned(70, row[1], row[0], 3, 10);
            int last = row[1] - 2;
            Check.due(70, "step(0, 5)", () -> plans.step(0, 5));
            Check.due(70L * (last + 1), "step(" + last + ", 5)", () -> plans.step(last, 5));
            for (int k : Check.noIndex(row[1] - 1)) {
                Check.due(Check.INDEX, "step(" + k + ", 0) of " + row[1] + " rises", () -> plans.step(k, 0));
                Check.due(Check.INDEX, "step(" + k + ", 5) of " + row[1] + " rises", () -> plans.step(k, 5));
            }
        }
    }

    private static void anotherWhat() {
        Check.sentence("IllegalArgumentException: another what");
        StairPlans plans = Check.planned(70, 9, 2, 3, 10);
        for (int what : Check.noIndex(6)) {
            Check.due(Check.ARGUMENT, "step(0, " + what + ")", () -> plans.step(0, what));
            Check.due(Check.ARGUMENT, "step(7, " + what + ")", () -> plans.step(7, what));
        }
        tread(plans, 7, 6, 16, 16, 19, 1, 560);
    }

    private static void notPlanned() {
        Check.sentence("IllegalStateException (first); IndexOutOfBoundsException; IllegalArgumentException (step)");
        for (int k : new int[] {0, -1, 59, Integer.MIN_VALUE, Integer.MAX_VALUE}) {
            Check.due(Check.STATE, "step(" + k + ", 0) of a new object", () -> new StairPlans().step(k, 0));
            Check.due(Check.STATE, "step(" + k + ", -1) of a new object", () -> new StairPlans().step(k, -1));
        }
        StairPlans plans = Check.planned(70, 9, 2, 3, 10);
        for (int what : Check.noIndex(6)) {
            Check.due(Check.INDEX, "step(-1, " + what + ")", () -> plans.step(-1, what));
            Check.due(Check.INDEX, "step(8, " + what + ")", () -> plans.step(8, what));
        }
    }
}
