import java.util.List;
import java.util.function.Consumer;
import java.util.function.Predicate;
import java.util.stream.Stream;

/**
 * The sentence "A call that throws changes nothing; of several exceptions the one named first is thrown.", for every
 * call in every kind of state: of two objects with the same calls behind them one is asked for what it must refuse,
 * and then both must answer alike, whatever they are asked.
 */
public final class RefusedCallTest {
    private static final long FAR = 1000000;
    // No state below, with what is refused in it, has more calls than these behind it.
    private static final int CALLS_BEFORE = 140;

    /** A state, and what every call that tells of a stair answers in it. */
    private record State(String name, boolean rules, boolean planned, boolean winders, boolean gap,
            Consumer<StairPlans> calls) {
        StairPlans reach() {
            StairPlans plans = new StairPlans();
            calls.accept(plans);
            return plans;
        }
    }

    private record Call(String name, Consumer<StairPlans> call) {
    }

    private static final List<State> STATES = List.of(
            new State("new", false, false, false, false, plans -> { }),
            new State("a text told", false, false, false, false, plans -> Check.tell(plans, "n=7;n>")),
            new State("a full text", false, false, false, false, plans -> Check.tell(plans, "n=7;".repeat(30))),
            new State("rules refused", false, false, false, false, plans -> Check.read(plans, "n=7;n>")),
            new State("rules read", true, false, false, false, plans -> Check.read(plans, "n=7;n>3")),
            new State("straight", true, true, false, false, plans -> plan(plans, 0)),
            new State("a landing", true, true, false, false, plans -> plan(plans, 1)),
            new State("winders", true, true, true, false, plans -> plan(plans, 2)),
            new State("winders and a gap", true, true, true, true, plans -> {
                plan(plans, 2);
                plans.balusters(2, 7);
            }),
            new State("no gap found", true, true, true, false, plans -> {
                plan(plans, 2);
                plans.balusters(2, 7);
                plans.balusters(1000, 7);
            }),
            new State("floors and a text", true, true, true, true, plans -> {
                plan(plans, 2);
                plans.balusters(2, 7);
                plans.floor(0, 0, 10, 10, 200);
                plans.floor(10, 0, 20, 10, 150);
                Check.tell(plans, "n=8;r<9");
            }),
            new State("floors full", true, true, false, true, plans -> {
                plan(plans, 1);
                plans.balusters(2, 7);
                for (int i = 0; i < 8; i++) {
                    plans.floor(i, 0, i + 3, 2, 200 - i);
                }
            }),
            new State("one rise", true, true, false, true, plans -> {
                Check.read(plans, "n=1");
                plans.run(0, 10, 9);
                plans.balusters(2, 7);
            }),
            new State("another TOTAL", true, false, false, false, plans -> {
                plan(plans, 2);
                plans.balusters(2, 7);
                plans.heights(101);
            }),
            new State("other rules", true, false, false, false, plans -> {
                plan(plans, 2);
                plans.balusters(2, 7);
                Check.read(plans, "n=6");
            }),
            new State("no stair found", true, false, false, false, plans -> {
                Check.read(plans, "n<4");
                plans.run(0, 10, 9);
                plans.balusters(2, 7);
                plans.run(2, 10, 9);
            }));

    public static void main(String[] args) {
        Check.sentence("A call that throws changes nothing (numbers that are not as said, in every state)");
        everywhere(Check.ARGUMENT, state -> true, heightsAndFloors());
        Check.sentence("A call that throws changes nothing; the one named first (no RULES were read)");
        everywhere(Check.STATE, state -> !state.rules(), runs(true));
        Check.sentence("A call that throws changes nothing (run with a number that is not as said)");
        everywhere(Check.ARGUMENT, State::rules, runs(false));
        Check.sentence("A call that throws changes nothing; the one named first (not PLANNED)");
        everywhere(Check.STATE, state -> !state.planned(), ofAStair());
        everywhere(Check.STATE, state -> !state.planned(), outside());
        everywhere(Check.STATE, state -> !state.planned(), wrongBalusters());
        everywhere(Check.STATE, state -> !state.planned(), wrongWhats());
        Check.sentence("A call that throws changes nothing (there is no such rule, tread, line)");
        everywhere(Check.INDEX, State::planned, outside());
        Check.sentence("A call that throws changes nothing (balusters with a number that is not as said)");
        everywhere(Check.ARGUMENT, State::planned, wrongBalusters());
        Check.sentence("A call that throws changes nothing (another what)");
        everywhere(Check.ARGUMENT, state -> state.planned() && !state.name().equals("one rise"), wrongWhats());
        Check.sentence("A call that throws changes nothing; the one named first (no winders)");
        everywhere(Check.STATE, state -> !state.winders(), ofWinders());
        everywhere(Check.STATE, state -> !state.winders(), outsideWinders());
        Check.sentence("A call that throws changes nothing (there is no such winder)");
        everywhere(Check.INDEX, State::winders, outsideWinders());
        Check.sentence("A call that throws changes nothing; the one named first (no gap)");
        everywhere(Check.STATE, state -> !state.gap(), ofGap());
        everywhere(Check.STATE, state -> !state.gap(), outsideGap());
        Check.sentence("A call that throws changes nothing (there is no such part of the gap)");
        everywhere(Check.INDEX, State::gap, outsideGap());
        refusedWithoutThrowing();
        refusedTexts();
        Check.end("RefusedCallTest");
    }

    /** Eight rises, 100 up, goings of 10, 9 broad. */
    private static void plan(StairPlans plans, int kind) {
        plans.heights(100);
        Check.read(plans, "n=8;r<13");
        plans.run(kind, 10, 9);
    }

    private static void everywhere(String want, Predicate<State> where, List<Call> calls) {
        for (State state : STATES) {
            if (where.test(state)) {
                for (Call call : calls) {
                    refused(want, state, call);
                }
            }
        }
    }

    private static void refused(String want, State state, Call call) {
        String label = call.name() + " in the state '" + state.name() + "'";
        StairPlans asked = state.reach();
        Check.due(want, label, () -> {
            call.call().accept(asked);
            return "nothing";
        });
        alike(label, state.reach(), asked);
    }

    private static void alike(String label, StairPlans before, StairPlans behind) {
        List<String> want = Probe.all(before, CALLS_BEFORE);
        List<String> got = Probe.all(behind, CALLS_BEFORE);
        Check.due(want.size(), "the number of answers behind " + label, got::size);
        for (int i = 0; i < want.size() && i < got.size(); i++) {
            int at = i;
            Check.due(want.get(i), "behind " + label, () -> got.get(at));
        }
    }

    private static List<Call> heightsAndFloors() {
        return List.of(
                new Call("heights(0)", plans -> plans.heights(0)),
                new Call("heights(100001)", plans -> plans.heights(100001)),
                new Call("heights(least)", plans -> plans.heights(Long.MIN_VALUE)),
                new Call("heights(greatest)", plans -> plans.heights(Long.MAX_VALUE)),
                new Call("floor, x0 too small", plans -> plans.floor(-FAR - 1, 0, 5, 5, 9)),
                new Call("floor, y0 too small", plans -> plans.floor(0, -FAR - 1, 5, 5, 9)),
                new Call("floor, x1 too large", plans -> plans.floor(0, 0, FAR + 1, 5, 9)),
                new Call("floor, y1 too large", plans -> plans.floor(0, 0, 5, FAR + 1, 9)),
                new Call("floor, x1 as x0", plans -> plans.floor(5, 0, 5, 5, 9)),
                new Call("floor, y1 as y0", plans -> plans.floor(0, 5, 5, 5, 9)),
                new Call("floor, too low", plans -> plans.floor(0, 0, 5, 5, -1)),
                new Call("floor, too high", plans -> plans.floor(0, 0, 5, 5, FAR + 1)));
    }

    private static List<Call> runs(boolean rightOnesToo) {
        List<Call> wrong = List.of(
                new Call("run(-1, 5, 6)", plans -> plans.run(-1, 5, 6)),
                new Call("run(3, 5, 6)", plans -> plans.run(3, 5, 6)),
                new Call("run(greatest, 5, 6)", plans -> plans.run(Integer.MAX_VALUE, 5, 6)),
                new Call("run(0, 0, 6)", plans -> plans.run(0, 0, 6)),
                new Call("run(0, 10001, 6)", plans -> plans.run(0, 10001, 6)),
                new Call("run(1, 5, 0)", plans -> plans.run(1, 5, 0)),
                new Call("run(1, 5, 10001)", plans -> plans.run(1, 5, 10001)),
                new Call("run(2, least, greatest)", plans -> plans.run(2, Long.MIN_VALUE, Long.MAX_VALUE)),
                new Call("run(-1, 0, 0)", plans -> plans.run(-1, 0, 0)));
        List<Call> right = List.of(
                new Call("run(0, 5, 6)", plans -> plans.run(0, 5, 6)),
                new Call("run(2, 1, 10000)", plans -> plans.run(2, 1, 10000)));
        return rightOnesToo ? Stream.concat(wrong.stream(), right.stream()).toList() : wrong;
    }

    private static List<Call> ofAStair() {
        return List.of(
                new Call("rise(0)", plans -> plans.rise(0)),
                new Call("step(0, 0)", plans -> plans.step(0, 0)),
                new Call("winder(0, 0)", plans -> plans.winder(0, 0)),
                new Call("area(0)", plans -> plans.area(0)),
                new Call("meets(0)", plans -> plans.meets(0)),
                new Call("headRoom()", plans -> plans.headRoom()),
                new Call("string(0)", plans -> plans.string(0)),
                new Call("balusters(1, 5)", plans -> plans.balusters(1, 5)),
                new Call("gap(0)", plans -> plans.gap(0)),
                new Call("list(0)", plans -> plans.list(0)));
    }

    private static List<Call> outside() {
        return List.of(
                new Call("rise(-1)", plans -> plans.rise(-1)),
                new Call("rise(2)", plans -> plans.rise(2)),
                new Call("step(-1, 0)", plans -> plans.step(-1, 0)),
                new Call("step(7, 0)", plans -> plans.step(7, 0)),
                new Call("step(7, 6)", plans -> plans.step(7, 6)),
                new Call("step(greatest, least)", plans -> plans.step(Integer.MAX_VALUE, Integer.MIN_VALUE)),
                new Call("meets(-1)", plans -> plans.meets(-1)),
                new Call("meets(2)", plans -> plans.meets(2)),
                new Call("string(-1)", plans -> plans.string(-1)),
                new Call("string(2)", plans -> plans.string(2)),
                new Call("list(-1)", plans -> plans.list(-1)),
                new Call("list(4)", plans -> plans.list(4)));
    }

    private static List<Call> wrongWhats() {
        return List.of(
                new Call("step(0, -1)", plans -> plans.step(0, -1)),
                new Call("step(0, 6)", plans -> plans.step(0, 6)),
                new Call("step(6, greatest)", plans -> plans.step(6, Integer.MAX_VALUE)));
    }

    private static List<Call> wrongBalusters() {
        return List.of(
                new Call("balusters(0, 5)", plans -> plans.balusters(0, 5)),
                new Call("balusters(1001, 5)", plans -> plans.balusters(1001, 5)),
                new Call("balusters(1, -1)", plans -> plans.balusters(1, -1)),
                new Call("balusters(least, least)", plans -> plans.balusters(Long.MIN_VALUE, Long.MIN_VALUE)));
    }

    private static List<Call> ofWinders() {
        return List.of(
                new Call("winder(0, 0)", plans -> plans.winder(0, 0)),
                new Call("winder(3, 1)", plans -> plans.winder(3, 1)),
                new Call("area(0)", plans -> plans.area(0)),
                new Call("area(2)", plans -> plans.area(2)));
    }

    private static List<Call> outsideWinders() {
        return List.of(
                new Call("winder(-1, 0)", plans -> plans.winder(-1, 0)),
                new Call("winder(4, 1)", plans -> plans.winder(4, 1)),
                new Call("winder(0, -1)", plans -> plans.winder(0, -1)),
                new Call("winder(3, 2)", plans -> plans.winder(3, 2)),
                new Call("area(-1)", plans -> plans.area(-1)),
                new Call("area(3)", plans -> plans.area(3)));
    }

    private static List<Call> ofGap() {
        return List.of(
                new Call("gap(0)", plans -> plans.gap(0)),
                new Call("gap(1)", plans -> plans.gap(1)));
    }

    private static List<Call> outsideGap() {
        return List.of(
                new Call("gap(-1)", plans -> plans.gap(-1)),
                new Call("gap(2)", plans -> plans.gap(2)));
    }

    /** What answers false has no more changed than what throws. */
    private static void refusedWithoutThrowing() {
        Check.sentence("whether there was room, and it is 33 .. 126 (a refused character changes nothing)");
        for (State state : STATES) {
            for (int u : new int[] {32, 127, Integer.MIN_VALUE, Integer.MAX_VALUE}) {
                StairPlans asked = state.reach();
                Check.due(false, "unit(" + u + ")", () -> asked.unit(u));
                alike("unit(" + u + ") in the state '" + state.name() + "'", state.reach(), asked);
            }
        }
        Check.sentence("A FLOOR more: whether there was room (a refused one changes nothing)");
        State full = STATES.stream().filter(state -> state.name().equals("floors full")).findFirst().orElseThrow();
        StairPlans ninth = full.reach();
        Check.due(false, "a ninth floor", () -> ninth.floor(0, 0, 5, 5, 1));
        alike("a ninth floor", full.reach(), ninth);
        Check.sentence("TOTAL: whether it is another one (the same one changes nothing)");
        for (State state : STATES) {
            StairPlans asked = state.reach();
            long total = !state.rules() || state.name().matches("rules read|one rise|no stair found") ? 270
                    : state.name().equals("another TOTAL") ? 101 : 100;
            Check.due(false, "heights(" + total + ") in the state '" + state.name() + "'", () -> asked.heights(total));
            alike("heights(" + total + ") in the state '" + state.name() + "'", state.reach(), asked);
        }
    }

    /** A text that is refused is gone, and nothing else. */
    private static void refusedTexts() {
        Check.sentence("The text (which is empty then) is read .. (the RULES stay as before)");
        for (State state : STATES) {
            for (String text : new String[] {"", "!", "n=5;", "n=5;r", "n=5;r<12;g"}) {
                StairPlans asked = state.reach();
                asked.rules();
                StairPlans before = state.reach();
                before.rules();
                Check.due(true, "rules() refuses '" + text + "'", () -> Check.read(asked, text) < 0);
                alike("rules() of '" + text + "' in the state '" + state.name() + "'", before, asked);
            }
        }
    }
}
