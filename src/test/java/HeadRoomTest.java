/** Promise 12. */
public final class HeadRoomTest {
    public static void main(String[] args) {
        straight();
        onlySidesInCommon();
        leastOfSeveral();
        belowTheStair();
        landing();
        winders();
        oneRise();
        largest();
        Check.due(Check.STATE, "headRoom() of a new object", () -> new StairPlans().headRoom());
        Check.end("HeadRoomTest");
    }

    private static void room(Object want, StairPlans plans, long... floor) {
        plans.floor(floor[0], floor[1], floor[2], floor[3], floor[4]);
        Check.due(want, "headRoom() under " + java.util.Arrays.toString(floor), () -> plans.headRoom());
    }

    private static void straight() {
        // Treads of 28 up to x = 392; the last one is 252 high.
        room(15 * 260 - 3780, Check.planned(270, 15, 0, 28, 90), 100, 0, 600, 90, 260);
        room(15 * 260 - 270, Check.planned(270, 15, 0, 28, 90), -5, 20, 28, 30, 260);
        room(15 * 260 - 540, Check.planned(270, 15, 0, 28, 90), -5, 20, 29, 30, 260);
        // A floor within one tread, and a tread within the floor.
        room(15 * 260 - 810, Check.planned(270, 15, 0, 28, 90), 60, 20, 61, 21, 260);
        room(15 * 260 - 3780, Check.planned(270, 15, 0, 28, 90), -999, -999, 999, 999, 260);
    }

    private static void onlySidesInCommon() {
        long none = Long.MAX_VALUE;
        room(none, Check.planned(270, 15, 0, 28, 90), 392, 0, 500, 90, 260);
        room(none, Check.planned(270, 15, 0, 28, 90), -10, 0, 0, 90, 260);
        room(none, Check.planned(270, 15, 0, 28, 90), 0, 90, 392, 100, 260);
        room(none, Check.planned(270, 15, 0, 28, 90), 0, -10, 392, 0, 260);
        room(15 * 260 - 3780, Check.planned(270, 15, 0, 28, 90), 391, 89, 500, 100, 260);
    }

    private static void leastOfSeveral() {
        StairPlans plans = Check.planned(270, 15, 0, 28, 90);
        room(15 * 400 - 270, plans, 0, 0, 1, 1, 400);
        room(15 * 390 - 540, plans, 30, 0, 31, 1, 390);
        room(15 * 390 - 540, plans, 0, 0, 1, 1, 395);
        room(15 * 390 - 540, plans, -9, -9, -8, -8, 0);
    }

    private static void belowTheStair() {
        room(-270, Check.planned(270, 15, 0, 28, 90), 0, 0, 1, 1, 0);
        room(-3780, Check.planned(270, 15, 0, 28, 90), 0, 0, 392, 1, 0);
    }

    private static void landing() {
        // Treads: 0, 1 along x to x = 6; the square 6 .. 16 by 0 .. 10; 3, 4, 5 up to y = 19.
        room(7 * 50 - 210, Check.planned(70, 7, 1, 3, 10), 15, 0, 20, 1, 50);
        room(7 * 50 - 280, Check.planned(70, 7, 1, 3, 10), 15, 0, 20, 11, 50);
        room(7 * 50 - 420, Check.planned(70, 7, 1, 3, 10), 15, 18, 20, 30, 50);
        room(Long.MAX_VALUE, Check.planned(70, 7, 1, 3, 10), 0, 10, 6, 19, 50);
        room(Long.MAX_VALUE, Check.planned(70, 7, 1, 3, 10), 16, 0, 20, 19, 50);
    }

    private static void winders() {
        // Treads: 0, 1 along x to x = 6; winders 2, 3, 4 in 6 .. 16 by 0 .. 10, each counts with the whole square.
        room(9 * 50 - 350, Check.planned(70, 9, 2, 3, 10), 6, 0, 7, 1, 50);
        room(9 * 50 - 350, Check.planned(70, 9, 2, 3, 10), 15, 9, 16, 10, 50);
        room(9 * 50 - 350, Check.planned(70, 9, 2, 3, 10), 0, 0, 7, 1, 50);
        room(9 * 50 - 140, Check.planned(70, 9, 2, 3, 10), 0, 0, 6, 1, 50);
    }

    private static void oneRise() {
        room(Long.MAX_VALUE, Check.planned(270, 1, 0, 28, 90), -1000, -1000, 1000, 1000, 0);
    }

    private static void largest() {
        StairPlans plans = Check.planned(1, 60, 0, 10000, 10000);
        room(60L * 1000000 - 59, plans, -1000000, -1000000, 1000000, 1000000, 1000000);
        StairPlans high = Check.planned(100000, 60, 0, 10000, 10000);
        room(-5900000, high, -1000000, -1000000, 1000000, 1000000, 0);
    }
}
