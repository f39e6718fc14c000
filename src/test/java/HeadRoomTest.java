/** Promise 12. */
public final class HeadRoomTest {
    private static final long FAR = 1000000;

    public static void main(String[] args) {
        straight();
        sidesAloneInCommon();
        cornersAloneInCommon();
        leastPlaceInCommon();
        treadsTouchOneAnother();
        leastOfSeveral();
        everyFloorCounts();
        everyTreadCounts();
        belowTheStair();
        landing();
        winders();
        withoutFloors();
        oneRise();
        largest();
        notPlanned();
        Check.end("HeadRoomTest");
    }

    private static void room(Object want, StairPlans plans, long... floor) {
        plans.floor(floor[0], floor[1], floor[2], floor[3], floor[4]);
        Check.due(want, "headRoom() under " + java.util.Arrays.toString(floor), () -> plans.headRoom());
    }

    /** Treads of 28 by 90 up to x = 392; the last one is 252 high, 3780 times n. */
    private static StairPlans fifteen() {
        return Check.planned(270, 15, 0, 28, 90);
    }

    private static void straight() {
        Check.sentence("of the floor's height less the tread's: told by its numerator, the denominator being n");
        room(15 * 260 - 3780, fifteen(), 100, 0, 600, 90, 260);
        room(15 * 260 - 270, fifteen(), -5, 20, 28, 30, 260);
        room(15 * 260 - 540, fifteen(), -5, 20, 29, 30, 260);
        // A floor within one tread, and a tread within the floor.
        room(15 * 260 - 810, fifteen(), 60, 20, 61, 21, 260);
        room(15 * 260 - 3780, fifteen(), -999, -999, 999, 999, 260);
    }

    private static void sidesAloneInCommon() {
        Check.sentence("they have a place in common, not only sides");
        long none = Long.MAX_VALUE;
        room(none, fifteen(), 392, 0, 500, 90, 260);
        room(none, fifteen(), -10, 0, 0, 90, 260);
        room(none, fifteen(), 0, 90, 392, 100, 260);
        room(none, fifteen(), 0, -10, 392, 0, 260);
    }

    private static void cornersAloneInCommon() {
        Check.sentence("they have a place in common, not only sides (nor only a corner)");
        long none = Long.MAX_VALUE;
        room(none, fifteen(), -1, -1, 0, 0, 260);
        room(none, fifteen(), -1, 90, 0, 91, 260);
        room(none, fifteen(), 392, -1, 393, 0, 260);
        room(none, fifteen(), 392, 90, 393, 91, 260);
    }

    private static void leastPlaceInCommon() {
        Check.sentence("they have a place in common (of 1 by 1)");
        room(15 * 260 - 270, fifteen(), -1, -1, 1, 1, 260);
        room(15 * 260 - 270, fifteen(), -1, 89, 1, 91, 260);
        room(15 * 260 - 3780, fifteen(), 391, -1, 393, 1, 260);
        room(15 * 260 - 3780, fifteen(), 391, 89, 393, 91, 260);
    }

    private static void treadsTouchOneAnother() {
        Check.sentence("they have a place in common, not only sides (where one tread ends and the next begins)");
        for (int k = 0; k < 14; k++) {
            room(15 * 300 - 270 * (k + 1), fifteen(), 28 * k, 0, 28 * k + 28, 90, 300);
            room(15 * 300 - 270 * (k + 1), fifteen(), 28 * k - 1, 0, 28 * k + 1, 90, 300);
        }
    }

    private static void leastOfSeveral() {
        Check.sentence("HEAD ROOM is the least of all floors over all treads");
        StairPlans plans = fifteen();
        room(15 * 400 - 270, plans, 0, 0, 1, 1, 400);
        room(15 * 390 - 540, plans, 30, 0, 31, 1, 390);
        room(15 * 390 - 540, plans, 0, 0, 1, 1, 395);
        room(15 * 390 - 540, plans, -9, -9, -8, -8, 0);
    }

    private static void everyFloorCounts() {
        Check.sentence("the least of all floors (the first and the last of eight)");
        for (int lowest = 0; lowest < 8; lowest++) {
            StairPlans plans = fifteen();
            for (int i = 0; i < 8; i++) {
                plans.floor(0, 0, 28, 90, i == lowest ? 300 : 400);
            }
            Check.due(15 * 300 - 270, "headRoom() when floor " + lowest + " is the lowest", () -> plans.headRoom());
        }
    }

    private static void everyTreadCounts() {
        Check.sentence("over all treads (the first and the last of 59)");
        for (int k = 0; k < 59; k++) {
            room(60L * 500 - 270 * (k + 1), Check.planned(270, 60, 0, 10, 10), 10 * k + 4, 4, 10 * k + 5, 5, 500);
        }
    }

    private static void belowTheStair() {
        Check.sentence("the floor's height less the tread's (nothing, and below 0)");
        room(0, Check.planned(300, 3, 0, 28, 90), 0, 0, 1, 1, 100);
        room(-3, Check.planned(300, 3, 0, 28, 90), 0, 0, 1, 1, 99);
        room(3, Check.planned(300, 3, 0, 28, 90), 0, 0, 1, 1, 101);
        room(-270, fifteen(), 0, 0, 1, 1, 0);
        room(-3780, fifteen(), 0, 0, 392, 1, 0);
    }

    /** Treads 0 and 1 go along x to 6, the square is 6 .. 16 by 0 .. 10, and 3, 4, 5 go up to y = 19. */
    private static StairPlans cornered() {
        return Check.planned(70, 7, 1, 3, 10);
    }

    private static void landing() {
        Check.sentence("over all treads (around a landing)");
        room(7 * 50 - 210, cornered(), 15, 0, 20, 1, 50);
        room(7 * 50 - 210, cornered(), 6, 0, 16, 10, 50);
        room(7 * 50 - 280, cornered(), 15, 0, 20, 11, 50);
        room(7 * 50 - 420, cornered(), 15, 18, 20, 30, 50);
        room(Long.MAX_VALUE, cornered(), 0, 10, 6, 19, 50);
        room(Long.MAX_VALUE, cornered(), 16, 0, 20, 19, 50);
        room(Long.MAX_VALUE, cornered(), 6, 19, 16, 20, 50);
    }

    private static void winders() {
        Check.sentence("of a winder its whole square");
        // Treads 0 and 1 go along x to 6; winders 2, 3, 4 lie in 6 .. 16 by 0 .. 10; the highest is 350 times n.
        for (int x = 6; x < 16; x += 3) {
            for (int y = 0; y < 10; y += 3) {
                room(9 * 50 - 350, Check.planned(70, 9, 2, 3, 10), x, y, x + 1, y + 1, 50);
            }
        }
        room(9 * 50 - 350, Check.planned(70, 9, 2, 3, 10), 0, 0, 7, 1, 50);
        room(9 * 50 - 140, Check.planned(70, 9, 2, 3, 10), 0, 0, 6, 1, 50);
        room(9 * 50 - 420, Check.planned(70, 9, 2, 3, 10), 6, 9, 7, 11, 50);
        room(Long.MAX_VALUE, Check.planned(70, 9, 2, 3, 10), 16, 0, 17, 10, 50);
    }

    private static void withoutFloors() {
        Check.sentence("the greatest long if no floor is over a tread");
        for (int kind = 0; kind <= 2; kind++) {
            StairPlans plans = Check.planned(270, 15, kind, 28, 90);
            Check.due(Long.MAX_VALUE, "headRoom() without floors", () -> plans.headRoom());
            room(Long.MAX_VALUE, plans, -FAR, -FAR, 0, FAR, 0);
            room(Long.MAX_VALUE, plans, -FAR, -FAR, FAR, 0, 0);
            room(Long.MAX_VALUE, plans, FAR - 1, FAR - 1, FAR, FAR, FAR);
        }
    }

    private static void oneRise() {
        Check.sentence("the greatest long if no floor is over a tread (there is no tread)");
        room(Long.MAX_VALUE, Check.planned(270, 1, 0, 28, 90), -FAR, -FAR, FAR, FAR, 0);
    }

    private static void largest() {
        Check.sentence("HEAD ROOM's numerator (the greatest and the least)");
        room(60L * FAR - 59, Check.planned(1, 60, 0, 10000, 10000), -FAR, -FAR, FAR, FAR, FAR);
        room(60L * FAR - 1, Check.planned(1, 60, 0, 10000, 10000), -FAR, -FAR, 1, FAR, FAR);
        room(-5900000, Check.planned(100000, 60, 0, 10000, 10000), -FAR, -FAR, FAR, FAR, 0);
    }

    private static void notPlanned() {
        Check.sentence("IllegalStateException (headRoom)");
        Check.due(Check.STATE, "headRoom() of a new object", () -> new StairPlans().headRoom());
        StairPlans plans = new StairPlans();
        plans.floor(0, 0, 10, 10, 300);
        Check.due(Check.STATE, "headRoom() with a floor and no stair", () -> plans.headRoom());
        Check.read(plans, "n=2");
        Check.due(Check.STATE, "headRoom() with rules and no stair", () -> plans.headRoom());
        plans.run(0, 10, 10);
        Check.due(2 * 300 - 270, "headRoom() of the stair", () -> plans.headRoom());
    }
}
