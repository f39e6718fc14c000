/** Promise 3. */
public final class UnitTest {
    // 92 characters of four rules.
    private static final String FOUR_RULES = "99r+99r+99r+99r<999999;".repeat(4);

    public static void main(String[] args) {
        onlyVisibleCharacters();
        endsOfInt();
        refusedCharacterIsNotTold();
        refusedCharacterTakesNoRoom();
        roomFor120();
        everyCharacterFindsNoRoom();
        fullTextIsReadWhole();
        refusedCharactersLeaveAFullText();
        roomAgainBehindRules();
        textKeepsThePlan();
        Check.end("UnitTest");
    }

    private static void onlyVisibleCharacters() {
        Check.sentence("and it is 33 .. 126");
        for (int u = -300; u <= 70000; u++) {
            int character = u;
            StairPlans plans = new StairPlans();
            Check.due(u >= 33 && u <= 126, "unit(" + u + ")", () -> plans.unit(character));
        }
    }

    private static void endsOfInt() {
        Check.sentence("and it is 33 .. 126 (the least and the greatest int)");
        for (int u : new int[] {Integer.MIN_VALUE, Integer.MAX_VALUE, Integer.MIN_VALUE + 'n', Integer.MIN_VALUE + 126,
            Integer.MAX_VALUE - 126, -'n', 'n' + 256, 'n' + 65536, 'n' - 65536, 'n' + (1 << 24)}) {
            Check.due(false, "unit(" + u + ")", () -> new StairPlans().unit(u));
        }
    }

    private static void refusedCharacterIsNotTold() {
        Check.sentence("A character more behind the text: whether .. (a refused one is none more)");
        StairPlans plans = new StairPlans();
        for (int u : new int[] {32, 'n', 127, '=', '4' + 65536, 0, '3', -1, Integer.MIN_VALUE + '4', '4' + 256}) {
            plans.unit(u);
        }
        Check.due(1, "rules() with refused characters between", () -> plans.rules());
        Check.due(3, "run by n=3", () -> plans.run(0, 1, 1));
    }

    private static void refusedCharacterTakesNoRoom() {
        Check.sentence("whether there was room (a refused character takes none)");
        StairPlans plans = new StairPlans();
        for (int i = 0; i < 119; i++) {
            Check.due(true, "unit(33)", () -> plans.unit(33));
            Check.due(false, "unit(32)", () -> plans.unit(32));
            Check.due(false, "unit(127)", () -> plans.unit(127));
        }
        Check.due(true, "unit(126) as the 120th", () -> plans.unit(126));
        Check.due(false, "unit(126) as the 121st", () -> plans.unit(126));
    }

    private static void roomFor120() {
        Check.sentence("whether there was room (120)");
        StairPlans plans = new StairPlans();
        String text = FOUR_RULES + "n>9;n>8;n>7;n>6;n>5;n>4;n>3;";
        for (char character : text.toCharArray()) {
            Check.due(true, "unit within the room", () -> plans.unit(character));
        }
        Check.due(120, "the characters told", () -> text.length());
        Check.due(false, "the 121st", () -> plans.unit('n'));
        Check.due(false, "one more", () -> plans.unit('n'));
        // The semicolon behind the eighth rule, at 107, can't be there.
        Check.due(-108, "rules()", () -> plans.rules());
    }

    private static void everyCharacterFindsNoRoom() {
        Check.sentence("whether there was room, and it is 33 .. 126 (in a full text no character at all)");
        StairPlans plans = new StairPlans();
        Check.tell(plans, "r".repeat(120));
        for (int u = 0; u <= 130; u++) {
            int character = u;
            Check.due(false, "unit(" + u + ") in a full text", () -> plans.unit(character));
        }
        Check.due(false, "unit(least) in a full text", () -> plans.unit(Integer.MIN_VALUE));
        Check.due(false, "unit(greatest) in a full text", () -> plans.unit(Integer.MAX_VALUE));
        Check.due(-2, "rules()", () -> plans.rules());
    }

    private static void fullTextIsReadWhole() {
        Check.sentence("room (120): the last character of a full text counts");
        StairPlans plans = new StairPlans();
        String full = FOUR_RULES + "99r+99r+99r+99r<999999;n=059";
        Check.due(120, "its length", () -> full.length());
        Check.due(6, "rules() of 120 characters", () -> Check.read(plans, full));
        Check.due(59, "run by n=059", () -> plans.run(0, 1, 1));
        String wrongAtTheLast = full.substring(0, 119) + "!";
        Check.due(-120, "rules() of a wrong 120th character", () -> Check.read(plans, wrongAtTheLast));
        String endsEarly = full.substring(0, 115) + "99n+9";
        Check.due(-121, "rules() of 120 characters that end too early", () -> Check.read(plans, endsEarly));
    }

    private static void refusedCharactersLeaveAFullText() {
        Check.sentence("whether there was room (a character without room changes nothing)");
        StairPlans plans = new StairPlans();
        Check.tell(plans, FOUR_RULES + "99r+99r+99r+99r<999999;n=057");
        Check.due(false, "unit('8')", () -> plans.unit('8'));
        Check.due(false, "unit(';')", () -> plans.unit(';'));
        Check.due(6, "rules()", () -> plans.rules());
        Check.due(57, "run by n=057", () -> plans.run(0, 1, 1));
    }

    private static void roomAgainBehindRules() {
        Check.sentence("The text (which is empty then) (there is room for 120 again)");
        StairPlans plans = new StairPlans();
        for (String text : new String[] {"r".repeat(120), FOUR_RULES + "99r+99r+99r+99r<999999;n=057"}) {
            Check.read(plans, text);
            for (int i = 0; i < 120; i++) {
                Check.due(true, "unit('n') when the text is empty again", () -> plans.unit('n'));
            }
            Check.due(false, "unit('n') when it is full again", () -> plans.unit('n'));
            Check.due(-2, "rules() of nnn..", () -> plans.rules());
        }
    }

    private static void textKeepsThePlan() {
        Check.sentence("A character more behind the text (it is read by rules() alone)");
        StairPlans plans = Check.planned(100, 5, 0, 10, 10);
        Check.tell(plans, "n=6");
        Check.due(20, "rise(0) after unit()", () -> plans.rise(0));
        Check.due(5, "run() after unit()", () -> plans.run(0, 10, 10));
        Check.due(1, "rules()", () -> plans.rules());
        Check.due(6, "run() after rules()", () -> plans.run(0, 10, 10));
    }
}
