/** Promise 13. */
public final class StringTest {
    public static void main(String[] args) {
        string(466, 467, 270, 15, 28);
        // Whole ones: 16 along and 12 up, 3 along and 4 up.
        string(20, 20, 15, 5, 4);
        string(5, 5, 8, 2, 3);
        // 12 along and 12 up, 1 along and 1 / 2 up, 12 along and 16 / 5 up.
        string(16, 17, 15, 5, 3);
        string(1, 2, 1, 2, 1);
        string(12, 13, 4, 5, 3);
        // 12 along and 7 / 2 up make 25 / 2, a fraction but no root.
        string(12, 13, 7, 2, 12);
        string(0, 0, 100000, 1, 10000);
        string(590000, 590001, 270, 60, 10000);
        string(598138, 598139, 100000, 60, 10000);
        string(98333, 98334, 100000, 60, 1);
        string(59, 60, 1, 60, 1);
        sameForEveryKind();
        wrongEnds();
        Check.end("StringTest");
    }

    private static void string(long cutOff, long notBelow, long total, int rises, long going) {
        StairPlans plans = Check.planned(total, rises, 0, going, 5);
        String stair = " of " + rises + " rises, " + total + " up, goings of " + going;
        Check.due(cutOff, "string(0)" + stair, () -> plans.string(0));
        Check.due(notBelow, "string(1)" + stair, () -> plans.string(1));
    }

    private static void sameForEveryKind() {
        for (int kind = 0; kind <= 2; kind++) {
            StairPlans plans = Check.planned(270, 15, kind, 28, 90);
            Check.due(466, "string(0) of kind " + kind, () -> plans.string(0));
            Check.due(467, "string(1) of kind " + kind, () -> plans.string(1));
        }
    }

    private static void wrongEnds() {
        StairPlans plans = Check.planned(270, 15, 0, 28, 90);
        for (int end : new int[] {-1, 2, Integer.MIN_VALUE, Integer.MAX_VALUE}) {
            Check.due(Check.INDEX, "string(" + end + ")", () -> plans.string(end));
        }
        Check.due(Check.STATE, "string(2) of a new object", () -> new StairPlans().string(2));
    }
}
