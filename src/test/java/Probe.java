import java.util.ArrayList;
import java.util.List;
import java.util.function.Supplier;

/** Asks an object for all that can be seen of it, so that two objects can be compared. It is spent then. */
final class Probe {
    private static final int MOST_CALLS = 512;

    private final StairPlans plans;
    private final List<String> seen = new ArrayList<>();

    private Probe(StairPlans plans) {
        this.plans = plans;
    }

    /** What an object answers, on which so many calls were made before. */
    static List<String> all(StairPlans plans, int callsBefore) {
        Probe probe = new Probe(plans);
        probe.askForStair();
        probe.fillFloors();
        probe.ask("rules()", plans::rules);
        probe.ask("rise(0) behind rules()", () -> plans.rise(0));
        probe.ask("run(0, 3, 4)", () -> plans.run(0, 3, 4));
        probe.askForStair();
        probe.ask("heights(270)", () -> plans.heights(270));
        if (callsBefore + probe.seen.size() > MOST_CALLS) {
            throw new IllegalStateException("an object is used for at most 512 calls");
        }
        return probe.seen;
    }

    private String ask(String label, Supplier<Object> call) {
        String answer = Check.answer(call);
        seen.add(label + " " + answer);
        return answer;
    }

    private void askForStair() {
        askForTreads();
        for (int i = 0; i < 4; i++) {
            int k = i;
            ask("list(" + k + ")", () -> plans.list(k));
            ask("winder(" + k + ", 0)", () -> plans.winder(k, 0));
            ask("winder(" + k + ", 1)", () -> plans.winder(k, 1));
            ask("area(" + k + ")", () -> plans.area(k));
        }
        for (int i = 0; i < 2; i++) {
            int part = i;
            ask("rise(" + part + ")", () -> plans.rise(part));
            ask("string(" + part + ")", () -> plans.string(part));
            ask("gap(" + part + ")", () -> plans.gap(part));
        }
        for (int i = 0; i <= 8; i++) {
            int rule = i;
            ask("meets(" + rule + ")", () -> plans.meets(rule));
        }
        ask("headRoom()", plans::headRoom);
    }

    private void askForTreads() {
        boolean there = true;
        for (int i = 0; there; i++) {
            int k = i;
            for (int what = 0; what < 6; what++) {
                int side = what;
                there = !ask("step(" + k + ", " + side + ")", () -> plans.step(k, side)).startsWith("throws.");
            }
        }
    }

    /** How much room there is for floors; those that find some are over no tread. */
    private void fillFloors() {
        boolean room = true;
        while (room) {
            room = ask("floor()", () -> plans.floor(-9, -9, -8, -8, 0)).equals("true");
        }
    }
}
