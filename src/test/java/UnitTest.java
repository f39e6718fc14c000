/** Promise 3. */
public final class UnitTest {
    public static void main(String[] args) {
        onlyVisibleCharacters();
        roomFor120();
        textKeepsThePlan();
        Check.end("UnitTest");
    }

    private static void onlyVisibleCharacters() {
        for (int u = -300; u <= 70000; u++) {
            int character = u;
            StairPlans plans = new StairPlans();
            Check.due(u >= 33 && u <= 126, "unit(" + u + ")", () -> plans.unit(character));
        }
        StairPlans plans = new StairPlans();
        Check.due(false, "unit(least)", () -> plans.unit(Integer.MIN_VALUE));
        Check.due(false, "unit(greatest)", () -> plans.unit(Integer.MAX_VALUE));
        Check.due(1, "rules() with refused characters between", () -> {
            plans.unit('n');
            plans.unit(32);
            plans.unit('=');
            plans.unit(127);
            plans.unit('4' + 65536);
            plans.unit('3');
            return plans.rules();
        });
        Check.due(3, "run by n=3", () -> plans.run(0, 1, 1));
    }

    private static void roomFor120() {
        StairPlans plans = new StairPlans();
        String four = "99r+99r+99r+99r<999999;";
        String text = four.repeat(5) + "n=7";
        for (char character : text.toCharArray()) {
            Check.due(true, "unit within the room", () -> plans.unit(character));
        }
        Check.due(true, "the 119th", () -> plans.unit(';'));
        Check.due(true, "the 120th", () -> plans.unit('r'));
        Check.due(false, "the 121st", () -> plans.unit('>'));
        Check.due(-121, "rules() of a full text that ends early", () -> plans.rules());
        Check.due(true, "unit() when the text is empty again", () -> plans.unit('n'));
        Check.due(-2, "rules() of n", () -> plans.rules());
        String full = four.repeat(4) + "99r+99r+99r+99r<999999;r>00000";
        Check.due(6, "rules() of 120 characters and one refused", () -> Check.read(plans, full.substring(0, 120) + ";"));
    }

    private static void textKeepsThePlan() {
        StairPlans plans = Check.planned(100, 5, 0, 10, 10);
        plans.unit('r');
        Check.due(20, "rise(0) after unit()", () -> plans.rise(0));
    }
}
