/** Promise 1, and the document's sentences on an object as a whole. */
public final class NewObjectTest {
    private static final int CALLS = 512;

    public static void main(String[] args) {
        none();
        totalIs270();
        nothingIsPlanned();
        textAndFloorsAreEmpty();
        objectsAreApart();
        lastCallOfManyAsks();
        lastCallOfManyPlans();
        lastCallOfManyTexts();
        Check.end("NewObjectTest");
    }

    private static void none() {
        Check.sentence("public static final int NONE = -1");
        Check.due(-1, "NONE", () -> StairPlans.NONE);
    }

    private static void totalIs270() {
        Check.sentence("StairPlans(): TOTAL 270");
        Check.due(false, "heights(270) of a new object", () -> new StairPlans().heights(270));
        Check.due(true, "heights(269) of a new object", () -> new StairPlans().heights(269));
        Check.due(true, "heights(271) of a new object", () -> new StairPlans().heights(271));
        StairPlans ruled = Check.withRules("t=270");
        Check.due(1, "run by t=270", () -> ruled.run(0, 1, 1));
        Check.due(270, "rise(0)", () -> ruled.rise(0));
        Check.due(1, "rise(1)", () -> ruled.rise(1));
    }

    private static void nothingIsPlanned() {
        Check.sentence("IllegalStateException: .. no RULES were read (of a new object)");
        StairPlans plans = new StairPlans();
        Check.due(Check.STATE, "run", () -> plans.run(0, 1, 1));
        Check.due(Check.STATE, "run(9, 0, 0)", () -> plans.run(9, 0, 0));
        Check.notPlanned(plans);
    }

    private static void textAndFloorsAreEmpty() {
        Check.sentence("A character more, A FLOOR more (a new object has none)");
        StairPlans plans = Check.planned(270, 5, 0, 10, 10);
        Check.due(Long.MAX_VALUE, "headRoom without floors", () -> plans.headRoom());
        Check.due(-1, "rules() of a new object", () -> new StairPlans().rules());
    }

    private static void objectsAreApart() {
        Check.sentence("A new object (nothing of another one is in it)");
        StairPlans one = Check.planned(100, 5, 0, 10, 10);
        one.floor(0, 0, 10, 10, 100);
        one.balusters(1, 10);
        Check.tell(one, "n=6;");
        StairPlans two = Check.planned(200, 4, 2, 20, 30);
        Check.due(20, "the first one's rise", () -> one.rise(0));
        Check.due(50, "the second one's rise", () -> two.rise(0));
        Check.due(Long.MAX_VALUE, "the second one's head room", () -> two.headRoom());
        Check.due(Check.STATE, "the second one's gap", () -> two.gap(0));
        Check.due(-1, "the second one's text", () -> two.rules());
        Check.due(-5, "the first one's text", () -> one.rules());
        Check.due(37, "the first one's gap", () -> one.gap(0));
    }

    private static void lastCallOfManyAsks() {
        Check.sentence("An object is used for at most 512 calls after it has been made (the last one asks)");
        StairPlans plans = Check.planned(270, 60, 2, 28, 90);
        // Four characters, rules(), heights() and run() were the first seven.
        for (int i = 7; i < CALLS - 1; i++) {
            plans.headRoom();
        }
        Check.due(9, "rise(0) as the 512th call", () -> plans.rise(0));
    }

    private static void lastCallOfManyPlans() {
        Check.sentence("An object is used for at most 512 calls after it has been made (each plans anew)");
        StairPlans plans = Check.withRules("n>59;r<9");
        for (int i = 9; i < CALLS; i++) {
            int kind = i % 3;
            Check.due(60, "run(" + kind + ", 28, 90), call " + (i + 1), () -> plans.run(kind, 28, 90));
        }
    }

    private static void lastCallOfManyTexts() {
        Check.sentence("An object is used for at most 512 calls after it has been made (each reads or tells a text)");
        StairPlans plans = new StairPlans();
        for (int i = 0; i < CALLS; i += 4) {
            Check.due(1, "rules(), call " + (i + 4), () -> Check.read(plans, "n=3"));
        }
        StairPlans full = new StairPlans();
        for (int i = 0; i < CALLS; i++) {
            Check.due(i < 120, "unit(33), call " + (i + 1), () -> full.unit(33));
        }
    }
}
