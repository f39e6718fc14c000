/** Promise 4, and the sentences on RULES. */
public final class RulesTest {
    private static final String DIGITS = "0123456789";
    private static final String LETTERS = "rgnwt";
    private static final String RELATIONS = "<>=";
    private static final String EIGHT = "n>1;n>2;n>3;n>4;n>5;n>6;n>7;n>8";

    public static void main(String[] args) {
        emptyText();
        oneToEightRules();
        ninthRule();
        oneToFourTerms();
        fifthTerm();
        boundDigits();
        weightDigits();
        everyLetter();
        everyRelation();
        everyCharacterAtEveryPlace();
        firstWrongCharacterCounts();
        endsTooEarly();
        greatestPlaces();
        textIsEmptyThen();
        refusedTextKeepsRulesAndPlan();
        refusedTextReadsNoRules();
        longestRefusedTextKeepsRules();
        successEndsThePlan();
        fewerRulesThanBefore();
        nothingIsLeftOfRulesBefore();
        Check.end("RulesTest");
    }

    private static void reads(int want, String text) {
        Check.due(want, "rules() of '" + text + "'", () -> Check.read(new StairPlans(), text));
    }

    private static String rules(int count) {
        return "n>0;".repeat(count - 1) + "n>0";
    }

    private static void emptyText() {
        Check.sentence("or of its end, if more must come (the empty text)");
        reads(-1, "");
        StairPlans plans = Check.planned(100, 5, 0, 10, 10);
        Check.due(-1, "rules() of the empty text", () -> plans.rules());
        Check.due(-1, "rules() of the empty text again", () -> plans.rules());
        Check.due(20, "rise(0): the RULES and the plan stay", () -> plans.rise(0));
        Check.due(5, "run() by the RULES of before", () -> plans.run(0, 10, 10));
    }

    private static void oneToEightRules() {
        Check.sentence("RULES: a text of 1 to 8 with ; (59) between them");
        for (int count = 1; count <= 8; count++) {
            StairPlans plans = new StairPlans();
            String text = rules(count);
            Check.due(count, "rules() of " + count, () -> Check.read(plans, text));
            plans.run(0, 1, 1);
            int last = count - 1;
            int next = count;
            Check.due(true, "meets(" + last + ") of " + count, () -> plans.meets(last));
            Check.due(Check.INDEX, "meets(" + next + ") of " + count, () -> plans.meets(next));
        }
        reads(-1, ";n>0");
        reads(-5, "n>0;");
        reads(-5, "n>0;;n>0");
        reads(-4, "n>0,n>0");
        reads(-4, "n>0:n>0");
    }

    private static void ninthRule() {
        Check.sentence("RULES: a text of 1 to 8 (a ninth can't be there)");
        reads(8, rules(8));
        reads(-32, rules(9));
        reads(-32, rules(8) + ";");
        reads(-32, rules(20));
        StairPlans plans = Check.planned(100, 5, 0, 10, 10);
        Check.due(-32, "rules() of nine", () -> Check.read(plans, rules(9)));
        Check.due(true, "meets(0), as before", () -> plans.meets(0));
        Check.due(Check.INDEX, "meets(1), as before", () -> plans.meets(1));
        Check.due(5, "run(), as before", () -> plans.run(0, 10, 10));
    }

    private static void oneToFourTerms() {
        Check.sentence("A sum is one to four TERMS with + (43) between them");
        reads(1, "r<1");
        reads(1, "r+g<1");
        reads(1, "r+g+n<1");
        reads(1, "r+g+n+w<1");
        reads(1, "99r+99g+99n+99w<1");
        reads(-1, "<1");
        reads(-1, "+r<1");
        reads(-3, "r+<1");
        reads(-3, "r++r<1");
        reads(-2, "r-g<1");
        reads(-2, "rg<1");
        reads(-2, "r*g<1");
        // The terms are counted for each rule anew.
        reads(2, "r+g+n+w<1;r+g+n+w<1");
    }

    private static void fifthTerm() {
        Check.sentence("A sum is one to four TERMS (a fifth can't be there)");
        reads(-8, "r+g+n+w+t<5");
        reads(-8, "r+g+n+w+");
        reads(-16, "99r+99g+99n+99w+99t<5");
        reads(-12, "n>0;r+g+n+w+t<5");
    }

    private static void boundDigits() {
        Check.sentence("and a number of 1 to 6 digits");
        for (int digits = 1; digits <= 6; digits++) {
            reads(1, "r<" + "9".repeat(digits));
            reads(1, "r<" + "0".repeat(digits));
        }
        reads(-3, "r<");
        reads(-3, "r<;n>0");
        reads(-9, "r<1234567");
        reads(-9, "r<0000000");
        reads(-9, "r<000000000001");
        reads(-13, "n>0;r<1234567");
        reads(-3, "r<-5");
        reads(-3, "r<+5");
        reads(-4, "r<1.5");
    }

    private static void weightDigits() {
        Check.sentence("perhaps a number of 1 or 2 digits, and one of the letters");
        reads(1, "r<1");
        reads(1, "0r<1");
        reads(1, "9r<1");
        reads(1, "00r<1");
        reads(1, "99r<1");
        reads(-3, "123r<1");
        reads(-3, "000r<1");
        reads(-3, "001r<1");
        reads(-5, "r+100g<1");
        reads(-2, "5<1");
        reads(-3, "55<1");
        reads(-2, "r5<1");
        reads(-1, "-1r<1");
    }

    private static void everyLetter() {
        Check.sentence("one of the letters r, g, n, w, t");
        for (char c = 33; c <= 126; c++) {
            boolean letter = LETTERS.indexOf(c) >= 0;
            boolean digit = DIGITS.indexOf(c) >= 0;
            reads(letter ? 1 : digit ? -2 : -1, c + "<1");
            reads(letter ? 1 : -3, "12" + c + "<1");
        }
    }

    private static void everyRelation() {
        Check.sentence("one of < > = (60, 62, 61)");
        for (char c = 33; c <= 126; c++) {
            boolean relation = c == 60 || c == 61 || c == 62;
            reads(relation ? 1 : c == '+' ? -4 : -2, "r" + c + "1");
        }
        reads(-3, "r<=1");
        reads(-3, "r>=1");
        reads(-3, "r==1");
        reads(-4, "r<5<6");
    }

    /** Behind a right start each of the 94 characters: those that may follow are taken, of the others this place is told. */
    private static void follows(String start, String mayFollow) {
        String lastRule = start.substring(start.lastIndexOf(';') + 1);
        boolean inBound = lastRule.matches(".*[<>=].*");
        int count = start.split(";").length;
        for (char c = 33; c <= 126; c++) {
            boolean taken = mayFollow.indexOf(c) >= 0;
            boolean whole = taken && inBound && DIGITS.indexOf(c) >= 0;
            reads(whole ? count : -1 - start.length() - (taken ? 1 : 0), start + c);
        }
    }

    private static void everyCharacterAtEveryPlace() {
        Check.sentence("-1 less the place of the first character that can't be there");
        follows("", DIGITS + LETTERS);
        follows("1", DIGITS + LETTERS);
        follows("12", LETTERS);
        follows("r", "+" + RELATIONS);
        follows("12t", "+" + RELATIONS);
        follows("r+", DIGITS + LETTERS);
        follows("r+5", DIGITS + LETTERS);
        follows("r+56", LETTERS);
        follows("r+g+n", "+" + RELATIONS);
        follows("r+g+n+w", RELATIONS);
        follows("r+g+n+99w", RELATIONS);
        follows("r<", DIGITS);
        follows("r>", DIGITS);
        follows("r=", DIGITS);
        follows("r<1", DIGITS + ";");
        follows("r<12345", DIGITS + ";");
        follows("r<123456", ";");
        follows("r<1;", DIGITS + LETTERS);
        follows(rules(7), DIGITS + ";");
        follows(rules(7) + ";", DIGITS + LETTERS);
        follows(rules(7) + ";n", "+" + RELATIONS);
        follows(rules(8), DIGITS);
        follows(rules(8) + "00000", "");
    }

    private static void firstWrongCharacterCounts() {
        Check.sentence("the first character that can't be there (whatever comes behind it)");
        reads(-4, "r<5!;;;xyz");
        reads(-1, "!n=5");
        reads(-4, "r<5!");
        reads(-4, "r<5r<5;n=1;<");
        reads(-5, "r<5;;");
        reads(-5, "r<5;<");
    }

    private static void endsTooEarly() {
        Check.sentence("or of its end, if more must come");
        reads(-2, "5");
        reads(-3, "55");
        reads(-2, "r");
        reads(-3, "5r");
        reads(-3, "r+");
        reads(-4, "r+1");
        reads(-5, "r+12");
        reads(-4, "r+g");
        reads(-3, "r<");
        reads(-5, "r<5;");
        reads(-6, "r<5;g");
        reads(-7, "r<5;g=");
        // Nothing more must come behind a digit of a rule's number.
        reads(1, "r<5");
        reads(2, "r<5;g=1");
    }

    private static void greatestPlaces() {
        Check.sentence("-1 less the place (the last one of a full text, and its end)");
        String fiveRules = "99r+99r+99r+99r<999999;".repeat(5);
        reads(6, fiveRules + "n>000");
        reads(-120, fiveRules + "n>00!");
        reads(-120, fiveRules + "n+n=n");
        reads(-121, fiveRules + "n>00;");
        reads(-121, fiveRules + "n+n+9");
        reads(-121, fiveRules + "n+99n");
    }

    private static void textIsEmptyThen() {
        Check.sentence("The text (which is empty then) is read");
        for (String text : new String[] {"n=4", "n=", "!", "n=4;n=4;", rules(8), rules(9), "r".repeat(120), ""}) {
            StairPlans plans = new StairPlans();
            Check.read(plans, text);
            Check.due(-1, "rules() again behind '" + text + "'", () -> plans.rules());
            Check.due(1, "rules() of n=7 behind '" + text + "'", () -> Check.read(plans, "n=7"));
            Check.due(7, "run() by n=7 behind '" + text + "'", () -> plans.run(0, 1, 1));
        }
    }

    private static void refusedTextKeepsRulesAndPlan() {
        Check.sentence("(the RULES stay as before)");
        StairPlans plans = Check.planned(100, 5, 0, 10, 10);
        plans.balusters(1, 10);
        for (String text : new String[] {"n=6;n>7x", "", "n=6;", "n=6;r", "n=6!", "9n=6;n=", rules(8) + ";"}) {
            Check.due(true, "rules() refuses '" + text + "'", () -> Check.read(plans, text) < 0);
            Check.due(20, "rise(0) behind '" + text + "'", () -> plans.rise(0));
            Check.due(true, "meets(0) behind '" + text + "'", () -> plans.meets(0));
            Check.due(Check.INDEX, "meets(1) behind '" + text + "'", () -> plans.meets(1));
            Check.due(37, "gap(0) behind '" + text + "'", () -> plans.gap(0));
        }
        Check.due(5, "run by the rules of before", () -> plans.run(0, 10, 10));
        Check.due(1, "rules() of n=4", () -> Check.read(plans, "n=4"));
        Check.due(4, "run by n=4", () -> plans.run(0, 10, 10));
    }

    private static void refusedTextReadsNoRules() {
        Check.sentence("(the RULES stay as before) (none, if none were read)");
        for (String text : new String[] {"", "n=", "n=5;", "n=5!", rules(9)}) {
            StairPlans plans = new StairPlans();
            Check.read(plans, text);
            Check.due(Check.STATE, "run() behind '" + text + "'", () -> plans.run(0, 1, 1));
        }
    }

    private static void longestRefusedTextKeepsRules() {
        Check.sentence("(the RULES stay as before) (all eight, their sums and their numbers)");
        StairPlans plans = new StairPlans();
        Check.read(plans, "n>1;n>2;n>3;n>4;n>5;n>6;n>7;n+g=19");
        Check.due(-32, "rules() of nine", () -> Check.read(plans, "r<1;g<1;w<1;t<1;r=1;g=1;w=1;t=1;t=1"));
        Check.due(9, "run() by the RULES of before", () -> plans.run(0, 10, 10));
        for (int i = 0; i < 8; i++) {
            int rule = i;
            Check.due(true, "meets(" + i + ")", () -> plans.meets(rule));
        }
    }

    private static void successEndsThePlan() {
        Check.sentence("IllegalStateException: it was not PLANNED since .. rules were told");
        for (String text : new String[] {"n=5", "n=4", EIGHT}) {
            StairPlans plans = Check.planned(100, 5, 2, 10, 10);
            plans.balusters(1, 10);
            Check.due(text.split(";").length, "rules() of " + text, () -> Check.read(plans, text));
            Check.notPlanned(plans);
        }
    }

    private static void fewerRulesThanBefore() {
        Check.sentence("how many RULES (those behind the new ones are gone)");
        StairPlans plans = new StairPlans();
        Check.due(8, "rules() of eight", () -> Check.read(plans, EIGHT));
        Check.due(2, "rules() of two", () -> Check.read(plans, "2n+3n=25;n<9"));
        Check.due(5, "run by two", () -> plans.run(0, 1, 1));
        Check.due(Check.INDEX, "meets(2)", () -> plans.meets(2));
        Check.due(1, "rules() of one", () -> Check.read(plans, "n=7"));
        Check.due(7, "run by one", () -> plans.run(0, 1, 1));
        Check.due(Check.INDEX, "meets(1)", () -> plans.meets(1));
    }

    private static void nothingIsLeftOfRulesBefore() {
        Check.sentence("The text is read (sums of texts before add nothing)");
        StairPlans plans = new StairPlans();
        for (String letter : "r g n w t".split(" ")) {
            Check.read(plans, "90" + letter + "+9r>1;90" + letter + "+9g<1");
            Check.read(plans, "90" + letter + "+9w>1;90" + letter + "+9t<1;n");
            Check.due(2, "rules() behind those of " + letter, () -> Check.read(plans, "0r=0;0g=0"));
            Check.due(1, "run() behind rules of " + letter, () -> plans.run(0, 1, 1));
        }
    }
}
