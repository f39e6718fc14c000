/** Promise 1. */
public final class NewObjectTest {
    public static void main(String[] args) {
        totalIs270();
        nothingIsPlanned();
        textAndFloorsAreEmpty();
        objectsAreApart();
        Check.end("NewObjectTest");
    }

    private static void totalIs270() {
        StairPlans plans = new StairPlans();
        Check.due(-1, "NONE", () -> StairPlans.NONE);
        Check.due(false, "heights(270) of a new object", () -> plans.heights(270));
        StairPlans ruled = Check.withRules("t=270");
        Check.due(1, "run by t=270", () -> ruled.run(0, 1, 1));
        Check.due(270, "rise(0)", () -> ruled.rise(0));
    }

    private static void nothingIsPlanned() {
        StairPlans plans = new StairPlans();
        Check.due(Check.STATE, "run", () -> plans.run(0, 1, 1));
        Check.due(Check.STATE, "run(9, 0, 0)", () -> plans.run(9, 0, 0));
        Check.notPlanned(plans);
    }

    private static void textAndFloorsAreEmpty() {
        StairPlans plans = Check.planned(270, 5, 0, 10, 10);
        Check.due(Long.MAX_VALUE, "headRoom without floors", () -> plans.headRoom());
        Check.due(-1, "rules() of a new object", () -> new StairPlans().rules());
    }

    private static void objectsAreApart() {
        StairPlans one = Check.planned(100, 5, 0, 10, 10);
        StairPlans two = Check.planned(200, 4, 2, 20, 30);
        Check.due(20, "the first one's rise", () -> one.rise(0));
        Check.due(50, "the second one's rise", () -> two.rise(0));
    }
}
