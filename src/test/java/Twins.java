import java.util.ArrayList;
import java.util.List;

/** Two objects with one past: one of them is asked something that changes nothing, then both tell all alike. */
final class Twins {
    interface Past {
        void of(FourTenGates x);
    }

    interface Call {
        int on(FourTenGates x);
    }

    private final List<String> told = new ArrayList<>();
    private final FourTenGates x;

    private Twins(FourTenGates x) {
        this.x = x;
    }

    /** The call answers as due, and nothing has changed by it. */
    static void changesNothing(Check check, String name, Past past, Call call, int want) {
        FourTenGates asked = new FourTenGates();
        FourTenGates other = new FourTenGates();
        past.of(asked);
        past.of(other);
        check.due(name, call.on(asked), want);
        tellAlike(check, "behind " + name, asked, other);
    }

    /** Uses both up: what can be undone is undone, what is kept is fetched back, the text is laid. */
    static void tellAlike(Check check, String name, FourTenGates one, FourTenGates other) {
        List<String> ones = new Twins(one).tellAll();
        List<String> others = new Twins(other).tellAll();
        int same = 0;
        while (same < ones.size() && same < others.size() && ones.get(same).equals(others.get(same))) {
            same++;
        }
        boolean alike = ones.size() == others.size() && same == ones.size();
        String first = alike || same >= ones.size() || same >= others.size() ? ""
            : ": " + ones.get(same) + ", its twin " + others.get(same);
        check.due(name + " all is as it was" + first, alike ? 1 : 0, 1);
    }

    private void tell(String call, int answer) {
        told.add(call + " answers " + answer);
    }

    // some 260 calls at the most, so that a past of 250 leaves an object within its 512
    private List<String> tellAll() {
        tellText();
        tellBook();
        tellStand();
        tellPlan();
        tell("fits()", x.fits());
        tell("lead(0)", x.lead(0));
        int left = 0;
        for (int k = 0; k < 9 && left >= 0; k++) {
            left = x.undo();
            tell("undo()", left);
            tellStand();
        }
        left = 0;
        for (int k = 0; k < 3 && left >= 0; k++) {
            left = x.back();
            tell("back()", left);
            tellStand();
            tell("dinner(0, 1)", x.dinner(0, 1));
        }
        tell("forget()", x.forget());
        tell("lay()", x.lay());
        tellStand();
        tell("wipe()", x.wipe());
        return told;
    }

    private void tellText() {
        tell("fault()", x.fault());
        for (int what = 0; what < 7; what++) {
            tell("count(" + what + ")", x.count(what));
        }
    }

    private void tellBook() {
        for (int i = 0; i < x.count(0); i++) {
            tell("train(" + i + ", 0)", x.train(i, 0));
            tell("train(" + i + ", 1)", x.train(i, 1));
        }
        for (int i = 0; i < x.count(1); i++) {
            tell("user(" + i + ", 0)", x.user(i, 0));
            tell("user(" + i + ", 1)", x.user(i, 1));
        }
        tell("mean(1, 0, 0)", x.mean(1, 0, 0));
        tell("mean(1, 0, 1)", x.mean(1, 0, 1));
        tell("cost(1)", x.cost(1));
        tell("cost(2)", x.cost(2));
        tell("cost(3)", x.cost(3));
    }

    private void tellStand() {
        for (int i = 0; i < 6; i++) {
            tell("train(" + i + ", 2)", x.train(i, 2));
        }
        tell("count(2)", x.count(2));
        tell("cost(0)", x.cost(0));
    }

    private void tellPlan() {
        for (int minute = 0; minute < 60; minute += 2) {
            tell("gates(0, " + (6 * minute + 5) + ")", x.gates(0, 6 * minute + 5));
        }
    }
}
