/** Promise 10. */
public final class MeetsTest {
    public static void main(String[] args) {
        everyRuleOfAPlanHolds();
        noSuchRule();
        noSuchRuleAnyMore();
        notPlanned();
        Check.end("MeetsTest");
    }

    private static StairPlans meetsAll(String rules, int kind) {
        StairPlans plans = Check.withRules(rules);
        plans.run(kind, 28, 90);
        int count = rules.split(";").length;
        for (int i = 0; i < count; i++) {
            int rule = i;
            Check.due(true, "meets(" + i + ") of " + rules, () -> plans.meets(rule));
        }
        return plans;
    }

    private static void everyRuleOfAPlanHolds() {
        Check.sentence("Whether a RULE holds (the first and the last of one and of eight)");
        for (int kind = 0; kind <= 2; kind++) {
            meetsAll("r<19;2r+g<65;2r+g>59", kind);
            meetsAll("n>1;n>2;n>3;n>4;n>5;n>6;n>7;n>8", kind);
            meetsAll("w=90", kind);
            meetsAll("n=60;60r=270;t=270;g=28", kind);
        }
    }

    private static void noSuchRule() {
        Check.sentence("IndexOutOfBoundsException: there is no such rule");
        for (int count = 1; count <= 8; count++) {
            StairPlans plans = meetsAll("n>0;".repeat(count - 1) + "n>0", 0);
            for (int rule : Check.noIndex(count)) {
                Check.due(Check.INDEX, "meets(" + rule + ") of " + count, () -> plans.meets(rule));
            }
        }
    }

    private static void noSuchRuleAnyMore() {
        Check.sentence("IndexOutOfBoundsException: there is no such rule (there was one in a text before)");
        StairPlans plans = meetsAll("n>0;n>0;n>0", 0);
        Check.read(plans, "n>0;n>0");
        plans.run(0, 28, 90);
        Check.due(true, "meets(1)", () -> plans.meets(1));
        Check.due(Check.INDEX, "meets(2)", () -> plans.meets(2));
    }

    private static void notPlanned() {
        Check.sentence("IllegalStateException (first) (meets)");
        StairPlans plans = Check.withRules("n=3");
        for (int rule : new int[] {0, -1, 1, 8, Integer.MIN_VALUE, Integer.MAX_VALUE}) {
            Check.due(Check.STATE, "meets(" + rule + ") of a new object", () -> new StairPlans().meets(rule));
            Check.due(Check.STATE, "meets(" + rule + ") before run()", () -> plans.meets(rule));
        }
        Check.due(-1, "run() that finds none", () -> plans.run(2, 28, 90));
        Check.due(Check.STATE, "meets(0) behind it", () -> plans.meets(0));
    }
}
