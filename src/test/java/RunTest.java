/** Promise 5, and the sentences on PLANNED and on which RISES a kind needs. */
public final class RunTest {
    public static void main(String[] args) {
        fewestRises();
        leastAndGreatestRises();
        everyNumberOfRises();
        risesThatAKindNeeds();
        lessGreaterSame();
        exactFractions();
        everyLetter();
        leastAndGreatestNumbers();
        largestSums();
        firstRuleThatFails();
        everyRuleMayFail();
        mostRulesFromTheFirstOn();
        failureEndsThePlan();
        failureKeepsAllElse();
        noRules();
        leastAndGreatestArguments();
        refusedKinds();
        refusedGoings();
        refusedWidths();
        refusedRunChangesNothing();
        Check.end("RunTest");
    }

    private static void runs(int want, String rules, long total, int kind, long going, long width) {
        StairPlans plans = Check.withRules(rules);
        plans.heights(total);
        Check.due(want, "run(" + kind + ", " + going + ", " + width + ") by " + rules,
                () -> plans.run(kind, going, width));
    }

    private static void fewestRises() {
        Check.sentence("PLANNED: the least n .. with which all RULES hold");
        runs(15, "r<19;2r+g<65;2r+g>59", 270, 0, 28, 90);
        runs(15, "2r+g>59;2r+g<65;r<19", 270, 0, 28, 90);
        runs(31, "n>10;n>30;n>20", 270, 0, 28, 90);
        runs(2, "r<270", 270, 0, 28, 90);
    }

    private static void leastAndGreatestRises() {
        Check.sentence("the least n of 1 .. 60");
        runs(1, "n>0", 270, 0, 28, 90);
        runs(1, "n<2", 270, 0, 28, 90);
        runs(-1, "n<1", 270, 0, 28, 90);
        runs(-1, "n=0", 270, 0, 28, 90);
        for (int kind = 0; kind <= 2; kind++) {
            runs(60, "n>59", 270, kind, 28, 90);
            runs(60, "n=60", 270, kind, 28, 90);
            runs(-1, "n>60", 270, kind, 28, 90);
            runs(-1, "n=61", 270, kind, 28, 90);
            runs(-1, "n=64", 270, kind, 28, 90);
            runs(-1, "n=999999", 270, kind, 28, 90);
        }
        // 60 rises of 1 / 60 are the lowest that there are.
        runs(60, "59r<1", 1, 0, 28, 90);
        runs(-1, "60r<1", 1, 0, 28, 90);
    }

    private static void everyNumberOfRises() {
        Check.sentence("PLANNED: n");
        for (int kind = 0; kind <= 2; kind++) {
            for (int n = new int[] {1, 2, 4}[kind]; n <= 60; n++) {
                runs(n, "n=" + n, 270, kind, 28, 90);
            }
        }
    }

    private static void risesThatAKindNeeds() {
        Check.sentence("(A stair of kind 1 needs 2 RISES, of kind 2 4 at least, of kind 0 1.)");
        int[] needs = {1, 2, 4};
        for (int kind = 0; kind <= 2; kind++) {
            int least = needs[kind];
            runs(least, "n>0", 270, kind, 28, 90);
            runs(least, "n=" + least, 270, kind, 28, 90);
            runs(least, "n<" + (least + 1), 270, kind, 28, 90);
            runs(-1, "n<" + least, 270, kind, 28, 90);
            for (int n = 0; n < least; n++) {
                runs(-1, "n=" + n, 270, kind, 28, 90);
            }
        }
    }

    private static void lessGreaterSame() {
        Check.sentence("one of < > = (less, greater, the same)");
        runs(-1, "g<28", 270, 0, 28, 90);
        runs(1, "g<29", 270, 0, 28, 90);
        runs(-1, "g>28", 270, 0, 28, 90);
        runs(1, "g>27", 270, 0, 28, 90);
        runs(1, "g=28", 270, 0, 28, 90);
        runs(-1, "g=27", 270, 0, 28, 90);
        runs(-1, "g=29", 270, 0, 28, 90);
    }

    private static void exactFractions() {
        Check.sentence("(All exactly, as fractions.)");
        // 100 / 3 lies between 33 and 34.
        runs(4, "r<33", 100, 0, 1, 1);
        runs(3, "r<34", 100, 0, 1, 1);
        runs(3, "r<34;r>33", 100, 0, 1, 1);
        runs(4, "r=25", 100, 0, 1, 1);
        runs(5, "r<25", 100, 0, 1, 1);
        runs(-1, "r=33", 100, 0, 1, 1);
        runs(-1, "r=34", 100, 0, 1, 1);
        runs(3, "3r=100", 100, 0, 1, 1);
        runs(7, "7r=100;n>1", 100, 0, 1, 1);
        runs(60, "60r=1", 1, 0, 1, 1);
        // 1 / 60 above a whole number, just it, and 1 / 60 below it.
        runs(60, "n=60;r>1;r<2", 61, 0, 1, 1);
        runs(60, "n=60;r=1", 60, 0, 1, 1);
        runs(60, "n=60;r<1;r>0", 59, 0, 1, 1);
        runs(-2, "n=60;r=1", 61, 0, 1, 1);
        runs(-2, "n=60;r=1", 59, 0, 1, 1);
    }

    private static void everyLetter() {
        Check.sentence("r (the RISE), g (GOING), n (RISES), w (WIDTH), t (TOTAL)");
        runs(1, "g=12", 100, 0, 12, 34);
        runs(1, "w=34", 100, 0, 12, 34);
        runs(1, "t=100", 100, 0, 12, 34);
        runs(5, "r=20", 100, 0, 12, 34);
        runs(9, "n=9", 100, 0, 12, 34);
        runs(5, "2r+3g+4n+5w=266", 100, 0, 12, 34);
        runs(5, "10r+10r+n+n=410", 100, 0, 12, 34);
        runs(5, "n=5;t+r=120", 100, 0, 12, 34);
    }

    private static void leastAndGreatestNumbers() {
        Check.sentence("a number of 1 to 6 digits, perhaps a number of 1 or 2 digits (the least and the greatest)");
        runs(1, "0r+0g+0w+0t=0", 100, 0, 12, 34);
        runs(1, "0r+0g=000000", 100, 0, 12, 34);
        runs(-1, "0r<0", 100, 0, 12, 34);
        runs(-1, "0r>0", 100, 0, 12, 34);
        runs(-1, "r<0", 1, 0, 1, 1);
        runs(-1, "r=0", 1, 0, 1, 1);
        runs(1, "r>0", 1, 0, 1, 1);
        runs(1, "99t=9900", 100, 0, 12, 34);
        runs(1, "09t=900", 100, 0, 12, 34);
        runs(1, "99g+g=1200", 100, 0, 12, 34);
        // 99 * 10000 + 9999 is the greatest number that a rule can tell.
        runs(1, "99g+w=999999", 100, 0, 10000, 9999);
        runs(-1, "99g+w<999999", 100, 0, 10000, 9999);
        runs(-1, "99g+w>999999", 100, 0, 10000, 9999);
        runs(1, "99g+w>999999", 100, 0, 10000, 10000);
        runs(1, "99g+w<999999", 100, 0, 10000, 9998);
    }

    private static void largestSums() {
        Check.sentence("(All exactly, as fractions.) (the greatest sums don't wrap)");
        runs(1, "99t+99t+99t+99t>999999", 100000, 0, 10000, 10000);
        runs(-1, "99t+99t+99t+99t<999999", 100000, 0, 10000, 10000);
        runs(60, "99t+99t+99t+99t>999999;n=60", 100000, 0, 10000, 10000);
        runs(60, "99w+99w+99g+99g>999999;n>59", 100000, 0, 10000, 10000);
        runs(60, "99r+99r+99r+99r=660000;n>0", 100000, 0, 1, 1);
        runs(60, "99n+99n+99n+99n=23760", 100000, 0, 1, 1);
    }

    private static void firstRuleThatFails() {
        Check.sentence("If there is none: the first RULE that does not hold");
        runs(-2, "n>0;g>99", 270, 0, 28, 90);
        runs(-1, "g>99;n>0", 270, 0, 28, 90);
        runs(-1, "g>99", 270, 0, 28, 90);
        runs(-1, "g>99;g>98;g>97", 270, 0, 28, 90);
        runs(-2, "n<5;n<4", 270, 2, 28, 90);
        runs(-2, "n<5;n>4", 270, 0, 28, 90);
    }

    private static void everyRuleMayFail() {
        Check.sentence("-1 less a RULE (the first and the last of eight)");
        for (int fails = 0; fails < 8; fails++) {
            String rules = "n>0;".repeat(fails) + "n<0" + ";n>0".repeat(7 - fails);
            runs(-1 - fails, rules, 270, 0, 28, 90);
        }
        runs(-8, "n>0;n>1;n>2;n>3;n>4;n>5;n>6;n<7", 270, 0, 28, 90);
    }

    private static void mostRulesFromTheFirstOn() {
        Check.sentence("with that n which holds the most rules from the first one on (of several the least n)");
        // With 60 rises three rules hold before the fourth, whatever the last one says.
        runs(-4, "n>9;n>19;n>29;n<30;g=28", 270, 0, 28, 90);
        // More rules hold with 4 in all, but from the first one on it's fewer.
        runs(-3, "n>5;n>7;n<5;n<6;n<7", 270, 0, 28, 90);
        // The most hold with the least n, with the greatest, and with one between.
        runs(-3, "n<3;n<2;n>1", 270, 0, 28, 90);
        runs(-3, "n>58;n>59;n<60", 270, 0, 28, 90);
        runs(-4, "n>0;n>29;n<31;n<30", 270, 0, 28, 90);
        // That n must be one which the kind allows.
        runs(-1, "n<2;n>9", 270, 1, 28, 90);
        runs(-2, "n<3;n>9", 270, 1, 28, 90);
        runs(-1, "n<4;n>9", 270, 2, 28, 90);
        runs(-2, "n<5;n>9", 270, 2, 28, 90);
        runs(-2, "n>59;n>60", 270, 0, 28, 90);
        runs(-1, "n>60;n>61", 270, 0, 28, 90);
    }

    private static void failureEndsThePlan() {
        Check.sentence("-1 less a RULE, if there is none (then it is not PLANNED)");
        StairPlans plans = Check.withRules("n=2");
        Check.due(2, "run(0, 10, 10)", () -> plans.run(0, 10, 10));
        plans.balusters(1, 10);
        Check.due(-1, "run(2, 10, 10)", () -> plans.run(2, 10, 10));
        Check.notPlanned(plans);
        StairPlans winders = Check.withRules("g<11");
        Check.due(4, "run(2, 10, 10)", () -> winders.run(2, 10, 10));
        Check.due(-1, "run(2, 11, 10)", () -> winders.run(2, 11, 10));
        Check.notPlanned(winders);
    }

    private static void failureKeepsAllElse() {
        Check.sentence("(then it is not PLANNED) (TOTAL, RULES, text and floors stay)");
        StairPlans plans = Check.withRules("n=2");
        plans.heights(100);
        plans.floor(0, 0, 5, 5, 200);
        Check.tell(plans, "n=3");
        Check.due(-1, "run(2, 10, 10)", () -> plans.run(2, 10, 10));
        Check.due(false, "heights(100)", () -> plans.heights(100));
        Check.due(2, "run(0, 10, 10)", () -> plans.run(0, 10, 10));
        Check.due(50, "rise(0)", () -> plans.rise(0));
        Check.due(300, "headRoom()", () -> plans.headRoom());
        Check.due(1, "rules() of the text told before", () -> plans.rules());
        Check.due(3, "run(0, 10, 10) by n=3", () -> plans.run(0, 10, 10));
    }

    private static void noRules() {
        Check.sentence("IllegalStateException: no RULES were read");
        StairPlans plans = new StairPlans();
        Check.due(Check.STATE, "run() of a new object", () -> plans.run(0, 1, 1));
        Check.tell(plans, "n=");
        Check.due(Check.STATE, "run() when a text is told, not read", () -> plans.run(0, 1, 1));
        plans.rules();
        Check.due(Check.STATE, "run() when rules() failed", () -> plans.run(0, 1, 1));
        Check.due(Check.STATE, "run() with wrong arguments and no rules", () -> plans.run(-1, 0, 0));
        plans.heights(100);
        Check.due(Check.STATE, "run() when TOTAL alone was told", () -> plans.run(0, 1, 1));
        Check.read(plans, "n=2");
        Check.due(2, "run() when rules were read", () -> plans.run(0, 1, 1));
    }

    private static void leastAndGreatestArguments() {
        Check.sentence("kind is not 0 .. 2, or going or width not 1 .. 10000 (the last ones that are taken)");
        StairPlans plans = Check.withRules("n=5");
        for (int kind = 0; kind <= 2; kind++) {
            for (long going : new long[] {1, 10000}) {
                for (long width : new long[] {1, 10000}) {
                    takes(plans, kind, going, width);
                }
            }
        }
    }

    private static void takes(StairPlans plans, int kind, long going, long width) {
        String label = " of run(" + kind + ", " + going + ", " + width + ")";
        Check.due(5, "n" + label, () -> plans.run(kind, going, width));
        // The last tread, and before it the corner, where M is 1 of kind 1 and 0 of kind 2.
        long[] greatestX = {4 * going, going + width, width};
        long[] greatestY = {width, width + 2 * going, width + going};
        Check.due(greatestX[kind], "step(3, 2)" + label, () -> plans.step(3, 2));
        Check.due(greatestY[kind], "step(3, 3)" + label, () -> plans.step(3, 3));
    }

    private static void refusedKinds() {
        Check.sentence("IllegalArgumentException: kind is not 0 .. 2");
        StairPlans plans = Check.withRules("n=5");
        for (int kind : Check.noIndex(3)) {
            Check.due(Check.ARGUMENT, "run(" + kind + ", 10, 10)", () -> plans.run(kind, 10, 10));
        }
    }

    private static void refusedGoings() {
        Check.sentence("IllegalArgumentException: .. going .. not 1 .. 10000");
        StairPlans plans = Check.withRules("n=5");
        for (long going : Check.noNumber(1, 10000)) {
            Check.due(Check.ARGUMENT, "run(0, " + going + ", 10)", () -> plans.run(0, going, 10));
        }
    }

    private static void refusedWidths() {
        Check.sentence("IllegalArgumentException: .. width not 1 .. 10000");
        StairPlans plans = Check.withRules("n=5");
        for (long width : Check.noNumber(1, 10000)) {
            Check.due(Check.ARGUMENT, "run(0, 10, " + width + ")", () -> plans.run(0, 10, width));
        }
    }

    private static void refusedRunChangesNothing() {
        Check.sentence("A call that throws changes nothing (run)");
        StairPlans plans = Check.planned(100, 5, 1, 10, 7);
        plans.balusters(1, 10);
        long[][] wrong = {{3, 20, 20}, {-1, 20, 20}, {0, 0, 20}, {2, 10001, 20}, {2, 20, 0}, {0, 20, 10001}};
        for (long[] row : wrong) {
            String label = " after run(" + row[0] + ", " + row[1] + ", " + row[2] + ")";
            Check.due(Check.ARGUMENT, "what comes" + label, () -> plans.run((int) row[0], row[1], row[2]));
            Check.due(20, "rise(0)" + label, () -> plans.rise(0));
            Check.due(1, "list(1)" + label, () -> plans.list(1));
            Check.due(17, "step(3, 2)" + label, () -> plans.step(3, 2));
            Check.due(37, "gap(0)" + label, () -> plans.gap(0));
        }
    }
}
