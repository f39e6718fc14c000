/** Promise 11. */
public final class FloorTest {
    private static final long FAR = 1000000;
    private static final String[] NAMES = {"x0", "y0", "x1", "y1", "height"};

    public static void main(String[] args) {
        leastAndGreatestPlaces();
        refusedPlaces();
        narrowestFloors();
        emptyFloors();
        leastAndGreatestHeights();
        refusedHeights();
        roomForEight();
        ninthIsNotThere();
        refusedFloorInAFullSet();
        refusedFloorTakesNoRoom();
        refusedFloorIsNotThere();
        floorsStay();
        Check.end("FloorTest");
    }

    private static void floor(Object want, StairPlans plans, long... sides) {
        Check.due(want, "floor" + java.util.Arrays.toString(sides),
                () -> plans.floor(sides[0], sides[1], sides[2], sides[3], sides[4]));
    }

    private static void floor(Object want, long... sides) {
        floor(want, new StairPlans(), sides);
    }

    private static void leastAndGreatestPlaces() {
        Check.sentence("a place is not -1000000 .. 1000000 (the last ones that are taken)");
        floor(true, -FAR, 0, 1, 1, 5);
        floor(true, 0, -FAR, 1, 1, 5);
        floor(true, 0, 0, FAR, 1, 5);
        floor(true, 0, 0, 1, FAR, 5);
        floor(true, -FAR, -FAR, FAR, FAR, 5);
        floor(true, FAR - 1, FAR - 1, FAR, FAR, 5);
        floor(true, -FAR, -FAR, 1 - FAR, 1 - FAR, 5);
    }

    private static void refusedPlaces() {
        Check.sentence("IllegalArgumentException: a place is not -1000000 .. 1000000");
        for (int side = 0; side < 4; side++) {
            for (long place : Check.noNumber(-FAR, FAR)) {
                long[] sides = {0, 0, 1, 1, 5};
                sides[side] = place;
                floor(Check.ARGUMENT, sides);
            }
        }
        // Of these x1 is above x0, y1 above y0, and one alone is too far.
        floor(Check.ARGUMENT, -FAR - 1, 0, 1, 1, 5);
        floor(Check.ARGUMENT, 0, -FAR - 1, 1, 1, 5);
        floor(Check.ARGUMENT, 0, 0, FAR + 1, 1, 5);
        floor(Check.ARGUMENT, 0, 0, 1, FAR + 1, 5);
        floor(Check.ARGUMENT, FAR, 0, FAR + 1, 1, 5);
        floor(Check.ARGUMENT, 0, FAR, 1, FAR + 1, 5);
        floor(Check.ARGUMENT, -FAR - 1, 0, -FAR, 1, 5);
        floor(Check.ARGUMENT, 0, -FAR - 1, 1, -FAR, 5);
        floor(Check.ARGUMENT, Long.MIN_VALUE, Long.MIN_VALUE, Long.MAX_VALUE, Long.MAX_VALUE, 5);
    }

    private static void narrowestFloors() {
        Check.sentence("x1 not above x0, y1 not above y0 (the least that are taken)");
        for (long place : new long[] {-FAR, -1, 0, FAR - 1}) {
            floor(true, place, -FAR, place + 1, FAR, 5);
            floor(true, -FAR, place, FAR, place + 1, 5);
            floor(true, place, place, place + 1, place + 1, 5);
        }
    }

    private static void emptyFloors() {
        Check.sentence("IllegalArgumentException: .. x1 not above x0, y1 not above y0");
        for (long place : new long[] {-FAR, -1, 0, 1, FAR}) {
            floor(Check.ARGUMENT, place, 0, place, 1, 5);
            floor(Check.ARGUMENT, 0, place, 1, place, 5);
        }
        floor(Check.ARGUMENT, 1, 0, 0, 1, 5);
        floor(Check.ARGUMENT, 0, 1, 1, 0, 5);
        floor(Check.ARGUMENT, FAR, 0, -FAR, 1, 5);
        floor(Check.ARGUMENT, 0, FAR, 1, -FAR, 5);
        floor(Check.ARGUMENT, 1, 1, 0, 0, 5);
    }

    private static void leastAndGreatestHeights() {
        Check.sentence("height not 0 .. 1000000 (the last ones that are taken)");
        for (long height : new long[] {0, 1, FAR - 1, FAR}) {
            StairPlans plans = Check.planned(100, 2, 0, 10, 10);
            floor(true, plans, 0, 0, 1, 1, height);
            Check.due(2 * height - 100, "headRoom() under " + height, () -> plans.headRoom());
        }
    }

    private static void refusedHeights() {
        Check.sentence("IllegalArgumentException: .. height not 0 .. 1000000");
        for (long height : Check.noNumber(0, FAR)) {
            floor(Check.ARGUMENT, 0, 0, 1, 1, height);
        }
    }

    private static StairPlans full() {
        StairPlans plans = Check.planned(100, 2, 0, 10, 10);
        for (int i = 0; i < 8; i++) {
            floor(true, plans, 0, 0, 1, 1, 1000 - i);
        }
        return plans;
    }

    private static void roomForEight() {
        Check.sentence("FLOORS, 8 at most: whether there was room");
        StairPlans plans = full();
        floor(false, plans, 0, 0, 1, 1, 5);
        floor(false, plans, 0, 0, 1, 1, 5);
        floor(false, plans, -FAR, -FAR, FAR, FAR, FAR);
    }

    private static void ninthIsNotThere() {
        Check.sentence("FLOORS, 8 at most (the eighth counts, a ninth does not)");
        StairPlans plans = full();
        Check.due(2 * 993 - 100, "headRoom() under the eighth", () -> plans.headRoom());
        floor(false, plans, 0, 0, 1, 1, 5);
        Check.due(2 * 993 - 100, "headRoom() when a ninth was told", () -> plans.headRoom());
    }

    private static void refusedFloorInAFullSet() {
        Check.sentence("A FLOOR more: whether there was room. IllegalArgumentException (also if there was none)");
        StairPlans plans = full();
        floor(Check.ARGUMENT, plans, 0, 0, 0, 1, 5);
        floor(Check.ARGUMENT, plans, 0, 0, 1, 0, 5);
        floor(Check.ARGUMENT, plans, -FAR - 1, 0, 1, 1, 5);
        floor(Check.ARGUMENT, plans, 0, 0, 1, 1, -1);
    }

    private static void refusedFloorTakesNoRoom() {
        Check.sentence("A call that throws changes nothing (floor takes no room)");
        StairPlans plans = new StairPlans();
        for (int i = 0; i < 8; i++) {
            floor(Check.ARGUMENT, plans, 0, 0, 0, 1, 5);
            floor(Check.ARGUMENT, plans, 0, 0, 1, 1, FAR + 1);
            floor(Check.ARGUMENT, plans, 0, 0, FAR + 1, 1, 5);
            floor(true, plans, 0, 0, 1, 1, 5);
        }
        floor(false, plans, 0, 0, 1, 1, 5);
    }

    private static void refusedFloorIsNotThere() {
        Check.sentence("A call that throws changes nothing (floor is over no tread)");
        StairPlans plans = Check.planned(100, 2, 0, 10, 10);
        for (int side = 0; side < NAMES.length; side++) {
            long[] sides = {0, 0, 5, 5, 5};
            sides[side] = side < 2 ? -FAR - 1 : FAR + 1;
            floor(Check.ARGUMENT, plans, sides);
            Check.due(Long.MAX_VALUE, "headRoom() behind a wrong " + NAMES[side], () -> plans.headRoom());
        }
    }

    private static void floorsStay() {
        Check.sentence("FLOORS are rectangles above (they stay, and keep the plan)");
        StairPlans plans = Check.planned(100, 2, 0, 10, 10);
        plans.balusters(1, 10);
        floor(true, plans, 0, 0, 1, 1, 300);
        Check.due(500, "headRoom()", () -> plans.headRoom());
        Check.due(50, "rise(0): a floor keeps the plan", () -> plans.rise(0));
        Check.due(10, "gap(0): and the gap", () -> plans.gap(0));
        plans.heights(200);
        Check.read(plans, "n=4");
        plans.run(1, 10, 10);
        Check.due(1000, "headRoom() of another stair", () -> plans.headRoom());
    }
}
