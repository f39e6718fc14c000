/** Promise 10. */
public final class MeetsTest {
    public static void main(String[] args) {
        everyRuleOfAPlanHolds("r<19;2r+g<65;2r+g>59", 3);
        everyRuleOfAPlanHolds("n>1;n>2;n>3;n>4;n>5;n>6;n>7;n>8", 8);
        everyRuleOfAPlanHolds("w=90", 1);
        notPlanned();
        Check.end("MeetsTest");
    }

    private static void everyRuleOfAPlanHolds(String rules, int count) {
        StairPlans plans = Check.withRules(rules);
        plans.run(0, 28, 90);
        for (int i = 0; i < count; i++) {
            int rule = i;
            Check.due(true, "meets(" + i + ") of " + rules, () -> plans.meets(rule));
        }
        for (int rule : new int[] {-1, count, 8, 9, Integer.MIN_VALUE, Integer.MAX_VALUE}) {
            Check.due(Check.INDEX, "meets(" + rule + ") of " + rules, () -> plans.meets(rule));
        }
    }

    private static void notPlanned() {
        Check.due(Check.STATE, "meets(-1) of a new object", () -> new StairPlans().meets(-1));
        StairPlans plans = Check.withRules("n=3");
        Check.due(Check.STATE, "meets(0) before run()", () -> plans.meets(0));
        Check.due(Check.STATE, "meets(9) before run()", () -> plans.meets(9));
    }
}
