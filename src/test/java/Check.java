import java.util.function.Supplier;

/** Compares answers with what is due, and ends a test with exit code 1 if one was wrong. */
final class Check {
    static final String STATE = "throws.IllegalStateException";
    static final String INDEX = "throws.IndexOutOfBoundsException";
    static final String ARGUMENT = "throws.IllegalArgumentException";

    private static int wrong = 0;
    private static int made = 0;

    private Check() {
    }

    /** What a call answers, as a text; an exception counts by its very class, not by one above it. */
    static String answer(Supplier<Object> call) {
        try {
            return String.valueOf(call.get());
        } catch (RuntimeException e) {
            return "throws." + e.getClass().getSimpleName();
        }
    }

    static void due(Object want, String label, Supplier<Object> call) {
        made++;
        String got = answer(call);
        if (!got.equals(String.valueOf(want))) {
            wrong++;
            System.out.println(label + " answered " + got + ", due is " + want);
        }
    }

    /** Tells a text and reads it. */
    static int read(StairPlans plans, String text) {
        for (char character : text.toCharArray()) {
            plans.unit(character);
        }
        return plans.rules();
    }

    static StairPlans withRules(String text) {
        StairPlans plans = new StairPlans();
        int count = read(plans, text);
        int want = text.split(";").length;
        due(want, "rules() of " + text, () -> count);
        return plans;
    }

    /** A new object with a stair of just so many rises. */
    static StairPlans planned(long total, int rises, int kind, long going, long width) {
        StairPlans plans = withRules("n=" + rises);
        plans.heights(total);
        due(rises, "run(" + kind + ", " + going + ", " + width + ")", () -> plans.run(kind, going, width));
        return plans;
    }

    /** Every call that tells of a stair refuses to. */
    static void notPlanned(StairPlans plans) {
        due(STATE, "rise", () -> plans.rise(0));
        due(STATE, "step", () -> plans.step(0, 0));
        due(STATE, "winder", () -> plans.winder(0, 0));
        due(STATE, "area", () -> plans.area(0));
        due(STATE, "meets", () -> plans.meets(0));
        due(STATE, "headRoom", () -> plans.headRoom());
        due(STATE, "string", () -> plans.string(0));
        due(STATE, "balusters", () -> plans.balusters(1, 1));
        due(STATE, "gap", () -> plans.gap(0));
        due(STATE, "list", () -> plans.list(0));
    }

    static void end(String name) {
        System.out.println(name + ": " + made + " answers, " + wrong + " wrong");
        if (wrong != 0 || made == 0) {
            System.exit(1);
        }
    }
}
