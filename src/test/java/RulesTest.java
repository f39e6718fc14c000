/** Promise 4. */
public final class RulesTest {
    public static void main(String[] args) {
        counts();
        wrongPlaces();
        endsTooEarly();
        failureKeepsRulesAndPlan();
        successEndsThePlan();
        nothingIsLeftOfRulesBefore();
        Check.end("RulesTest");
    }

    private static void reads(int want, String text) {
        Check.due(want, "rules() of '" + text + "'", () -> Check.read(new StairPlans(), text));
    }

    private static void counts() {
        reads(1, "r<1");
        reads(1, "2r+g>59");
        reads(1, "r+g+n+w=999999");
        reads(1, "00t+99w+0r+1n=000000");
        reads(2, "r<19;g>2");
        reads(8, "n>1;n>2;n>3;n>4;n>5;n>6;n>7;n>8");
    }

    private static void wrongPlaces() {
        reads(-1, "<5");
        reads(-1, ";");
        reads(-1, "+r<5");
        reads(-1, "x<5");
        reads(-1, "R<5");
        reads(-2, "rr<5");
        reads(-2, "r;");
        reads(-2, "r5");
        reads(-3, "r++r<5");
        reads(-3, "12<5");
        reads(-3, "123r<5");
        reads(-3, "r<r");
        reads(-3, "r<-5");
        reads(-3, "r<=5");
        reads(-4, "r<5r");
        reads(-4, "r<5+r");
        reads(-4, "r<5<6");
        reads(-5, "r<5;;");
        reads(-5, "r<5;<");
        reads(-8, "r+g+n+w+t<5");
        reads(-9, "r<1234567");
        reads(-32, "n>1;n>2;n>3;n>4;n>5;n>6;n>7;n>8;n>9");
        reads(-32, "n>1;n>2;n>3;n>4;n>5;n>6;n>7;n>8;");
        // The first wrong character counts, whatever comes behind it.
        reads(-4, "r<5!;;;xyz");
    }

    private static void endsTooEarly() {
        reads(-1, "");
        reads(-2, "5");
        reads(-3, "55");
        reads(-2, "r");
        reads(-3, "r+");
        reads(-5, "r+12");
        reads(-3, "r<");
        reads(-5, "r<5;");
        reads(-6, "r<5;g");
    }

    private static void failureKeepsRulesAndPlan() {
        StairPlans plans = Check.planned(100, 5, 0, 10, 10);
        plans.balusters(1, 10);
        Check.due(-8, "rules() of n=6;n=x", () -> Check.read(plans, "n=6;n>7x"));
        Check.due(20, "rise(0)", () -> plans.rise(0));
        Check.due(true, "meets(0)", () -> plans.meets(0));
        Check.due(Check.INDEX, "meets(1)", () -> plans.meets(1));
        Check.due(37, "gap(0)", () -> plans.gap(0));
        Check.due(5, "run by the rules of before", () -> plans.run(0, 10, 10));
        // The text is empty after a failure too.
        Check.due(-1, "rules() again", () -> plans.rules());
        Check.due(1, "rules() of n=4", () -> Check.read(plans, "n=4"));
        Check.due(4, "run by n=4", () -> plans.run(0, 10, 10));
    }

    private static void successEndsThePlan() {
        StairPlans plans = Check.planned(100, 5, 2, 10, 10);
        plans.balusters(1, 10);
        Check.due(1, "rules() of the same text", () -> Check.read(plans, "n=5"));
        Check.notPlanned(plans);
        // Fewer rules than before: those behind the new ones are gone.
        Check.due(2, "rules() of two", () -> Check.read(plans, "2n+3n=25;n<9"));
        Check.due(1, "rules() of one", () -> Check.read(plans, "n=7"));
        Check.due(7, "run by one", () -> plans.run(0, 1, 1));
        Check.due(Check.INDEX, "meets(1)", () -> plans.meets(1));
    }

    private static void nothingIsLeftOfRulesBefore() {
        StairPlans plans = new StairPlans();
        for (String letter : "r g n w t".split(" ")) {
            Check.read(plans, "90" + letter + "+9r>1;90" + letter + "+9g<1");
            Check.read(plans, "90" + letter + "+9w>1;90" + letter + "+9t<1;n");
            Check.due(2, "rules() behind those of " + letter, () -> Check.read(plans, "0r=0;0g=0"));
            Check.due(1, "run() behind rules of " + letter, () -> plans.run(0, 1, 1));
        }
    }
}
