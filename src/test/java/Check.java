import java.util.Arrays;
import java.util.function.Supplier;

/** Compares answers with what is due, and ends a test with exit code 1 if one was wrong. */
final class Check {
    static final String STATE = "throws.IllegalStateException";
    static final String INDEX = "throws.IndexOutOfBoundsException";
    static final String ARGUMENT = "throws.IllegalArgumentException";

    private static int wrong = 0;
    private static int made = 0;
    private static int sentences = 0;
    private static int madeBeforeSentence = 0;
    private static String sentence = "";

    private Check() {
    }

    /** The document's words that the answers from here on are due by. */
    static void sentence(String words) {
        closeSentence();
        sentence = words;
        sentences++;
        madeBeforeSentence = made;
    }

    /** A sentence that no answer was asked for has no test of its own. */
    private static void closeSentence() {
        if (!sentence.isEmpty() && made == madeBeforeSentence) {
            wrong++;
            System.out.println("no answer was asked for by: " + sentence);
        }
    }

    /** What a call answers, as a text; an exception counts by its very class, not by one above it. */
    static String answer(Supplier<Object> call) {
        try {
            return String.valueOf(call.get());
        } catch (RuntimeException e) {
            return "throws." + e.getClass().getSimpleName();
        }
    }

    static void due(Object want, String label, Supplier<Object> call) {
        made++;
        String got = answer(call);
        if (!got.equals(String.valueOf(want))) {
            wrong++;
            System.out.println(label + " answered " + got + ", due is " + want
                    + (sentence.isEmpty() ? "" : ", by: " + sentence));
        }
    }

    /** Numbers that are not least .. greatest: the next ones, the ends of long, and some that int would cut to these. */
    static long[] noNumber(long least, long greatest) {
        long[] tried = {
            least - 1, greatest + 1, -least - 1, -greatest - 1, 0, -1, Long.MIN_VALUE, Long.MAX_VALUE,
            Long.MIN_VALUE + 1, Long.MAX_VALUE - 1, Integer.MIN_VALUE, Integer.MAX_VALUE,
            least + (1L << 32), greatest - (1L << 32), least + Long.MIN_VALUE, greatest + Long.MIN_VALUE,
        };
        return Arrays.stream(tried).filter(number -> number < least || number > greatest).distinct().toArray();
    }

    /** Numbers that are not 0 .. count - 1: the next ones, the ends of int, and some that short or byte would cut. */
    static int[] noIndex(int count) {
        int[] tried = {
            -1, count, count + 1, -count, -count - 1, Integer.MIN_VALUE, Integer.MAX_VALUE, Integer.MIN_VALUE + 1,
            Integer.MAX_VALUE - 1, 256, 65536, -256, -65536, count - 1 + 65536,
        };
        return Arrays.stream(tried).filter(index -> index < 0 || index >= count).distinct().toArray();
    }

    /** Tells a text, without reading it. */
    static void tell(StairPlans plans, String text) {
        for (char character : text.toCharArray()) {
            plans.unit(character);
        }
    }

    /** Tells a text and reads it. */
    static int read(StairPlans plans, String text) {
        tell(plans, text);
        return plans.rules();
    }

    static StairPlans withRules(String text) {
        StairPlans plans = new StairPlans();
        int count = read(plans, text);
        int want = text.split(";").length;
        due(want, "rules() of " + text, () -> count);
        return plans;
    }

    /** A new object with a stair of just so many rises. */
    static StairPlans planned(long total, int rises, int kind, long going, long width) {
        StairPlans plans = withRules("n=" + rises);
        plans.heights(total);
        due(rises, "run(" + kind + ", " + going + ", " + width + ")", () -> plans.run(kind, going, width));
        return plans;
    }

    /** Every call that tells of a stair refuses to. */
    static void notPlanned(StairPlans plans) {
        due(STATE, "rise", () -> plans.rise(0));
        due(STATE, "step", () -> plans.step(0, 0));
        due(STATE, "winder", () -> plans.winder(0, 0));
        due(STATE, "area", () -> plans.area(0));
        due(STATE, "meets", () -> plans.meets(0));
        due(STATE, "headRoom", () -> plans.headRoom());
        due(STATE, "string", () -> plans.string(0));
        due(STATE, "balusters", () -> plans.balusters(1, 1));
        due(STATE, "gap", () -> plans.gap(0));
        due(STATE, "list", () -> plans.list(0));
    }

    static void end(String name) {
        closeSentence();
        System.out.println(name + ": " + sentences + " sentences, " + made + " answers, " + wrong + " wrong");
        if (wrong != 0 || made == 0) {
            System.exit(1);
        }
    }
}
