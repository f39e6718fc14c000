/** Promise 5. */
public final class RunTest {
    public static void main(String[] args) {
        fewestRises();
        kindsNeedRises();
        exactComparisons();
        everyLetter();
        largestSums();
        firstRuleThatFails();
        failureEndsThePlan();
        wrongArguments();
        Check.end("RunTest");
    }

    private static void runs(int want, String rules, long total, int kind, long going, long width) {
        StairPlans plans = Check.withRules(rules);
        plans.heights(total);
        Check.due(want, "run(" + kind + ", " + going + ", " + width + ") by " + rules,
                () -> plans.run(kind, going, width));
    }

    private static void fewestRises() {
        runs(15, "r<19;2r+g<65;2r+g>59", 270, 0, 28, 90);
        runs(1, "n>0", 270, 0, 28, 90);
        runs(60, "n>59", 270, 0, 28, 90);
        runs(60, "n=60", 270, 2, 28, 90);
        runs(-1, "n>60", 270, 0, 28, 90);
        runs(-1, "n<1", 270, 0, 28, 90);
    }

    private static void kindsNeedRises() {
        runs(2, "n>0", 270, 1, 28, 90);
        runs(4, "n>0", 270, 2, 28, 90);
        runs(-1, "n<2", 270, 1, 28, 90);
        runs(-1, "n<4", 270, 2, 28, 90);
        runs(2, "n<3", 270, 1, 28, 90);
        runs(4, "n<5", 270, 2, 28, 90);
    }

    private static void exactComparisons() {
        // 100 / 3 lies between 33 and 34.
        runs(4, "r<33", 100, 0, 1, 1);
        runs(3, "r<34", 100, 0, 1, 1);
        runs(3, "r<34;r>33", 100, 0, 1, 1);
        runs(4, "r=25", 100, 0, 1, 1);
        runs(5, "r<25", 100, 0, 1, 1);
        runs(-1, "r=33", 100, 0, 1, 1);
        runs(3, "3r=100", 100, 0, 1, 1);
        runs(7, "7r=100;n>1", 100, 0, 1, 1);
        runs(60, "60r=1", 1, 0, 1, 1);
    }

    private static void everyLetter() {
        runs(1, "g=12", 100, 0, 12, 34);
        runs(1, "w=34", 100, 0, 12, 34);
        runs(1, "t=100", 100, 0, 12, 34);
        runs(5, "r=20", 100, 0, 12, 34);
        runs(9, "n=9", 100, 0, 12, 34);
        runs(5, "2r+3g+4n+5w=266", 100, 0, 12, 34);
        runs(5, "10r+10r+n+n=410", 100, 0, 12, 34);
        runs(1, "0r+0g=0", 100, 0, 12, 34);
        runs(1, "99t=9900", 100, 0, 12, 34);
    }

    private static void largestSums() {
        runs(1, "99t+99t+99t+99t>999999", 100000, 0, 10000, 10000);
        runs(-1, "99t+99t+99t+99t<999999", 100000, 0, 10000, 10000);
        runs(60, "99t+99t+99t+99t>999999;n=60", 100000, 0, 10000, 10000);
        runs(60, "99w+99w+99g+99g>999999;n>59", 100000, 0, 10000, 10000);
    }

    private static void firstRuleThatFails() {
        runs(-2, "n>0;g>99", 270, 0, 28, 90);
        runs(-1, "g>99;n>0", 270, 0, 28, 90);
        // With 60 rises three rules hold before the fourth, whatever the last one says.
        runs(-4, "n>9;n>19;n>29;n<30;g=28", 270, 0, 28, 90);
        // More rules hold with 4 in all, but from the first one on it's fewer.
        runs(-3, "n>5;n>7;n<5;n<6;n<7", 270, 0, 28, 90);
        runs(-8, "n>0;n>1;n>2;n>3;n>4;n>5;n>6;n<7", 270, 0, 28, 90);
        runs(-2, "n<5;n<4", 270, 2, 28, 90);
        runs(-2, "n<5;n>4", 270, 0, 28, 90);
    }

    private static void failureEndsThePlan() {
        StairPlans plans = Check.withRules("n=2");
        Check.due(2, "run(0, 10, 10)", () -> plans.run(0, 10, 10));
        plans.balusters(1, 10);
        Check.due(-1, "run(2, 10, 10)", () -> plans.run(2, 10, 10));
        Check.notPlanned(plans);
    }

    private static void wrongArguments() {
        StairPlans none = new StairPlans();
        Check.read(none, "n=");
        Check.due(Check.STATE, "run when rules() failed", () -> none.run(0, 1, 1));
        Check.due(Check.STATE, "run with wrong arguments and no rules", () -> none.run(-1, 0, 0));

        StairPlans plans = Check.planned(100, 5, 1, 10, 10);
        long[][] wrong = {
            {-1, 10, 10}, {3, 10, 10}, {Integer.MIN_VALUE, 10, 10}, {Integer.MAX_VALUE, 10, 10},
            {0, 0, 10}, {0, 10001, 10}, {0, 10, 0}, {0, 10, 10001}, {0, -1, 10}, {0, 10, -1},
            {0, Long.MIN_VALUE, 10}, {0, 10, Long.MAX_VALUE}, {0, (1L << 32) + 10, 10}, {0, 10, (1L << 32) + 10},
        };
        for (long[] row : wrong) {
            Check.due(Check.ARGUMENT, "run(" + row[0] + ", " + row[1] + ", " + row[2] + ")",
                    () -> plans.run((int) row[0], row[1], row[2]));
        }
        Check.due(1, "list(1), as before", () -> plans.list(1));
        Check.due(5, "run(0, 1, 1)", () -> plans.run(0, 1, 1));
        Check.due(5, "run(2, 10000, 10000)", () -> plans.run(2, 10000, 10000));
    }
}
