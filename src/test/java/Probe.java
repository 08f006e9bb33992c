import java.util.ArrayList;
import java.util.List;
import java.util.function.LongSupplier;

/** Asks an object for all that it tells and does, so that two objects can be held against each other. */
final class Probe {
    private final PlanJudge x;
    private final List<String> answers = new ArrayList<>();

    private Probe(PlanJudge x) {
        this.x = x;
    }

    /** What it shows, its plan and row, the AMOUNT and the MOMENT: some 300 calls. */
    static List<String> ofPlan(PlanJudge x) {
        Probe probe = new Probe(x);
        probe.askCounts();
        probe.askRow();
        probe.askSteps();
        probe.askState();
        probe.ask("judge()", x::judge);
        probe.askState();
        probe.ask("arrange()", x::arrange);
        probe.askCounts();
        probe.askSteps();
        probe.askHand();
        return probe.answers;
    }

    /** What its first state, its goal, EPSILON and its actions do: some 300 calls. */
    static List<String> ofTask(PlanJudge x) {
        Probe probe = new Probe(x);
        int actions = x.count(2);
        x.clear();
        probe.ask("judge()", x::judge);
        probe.askState();
        for (int a = 0; a < actions; a += a == 0 && actions > 2 ? actions - 1 : 1) {
            probe.askAction(a);
        }
        x.clear();
        probe.askGoal();
        for (int a = 0; a < actions; a += a == 0 && actions > 2 ? actions - 1 : 1) {
            probe.askRoom(a);
        }
        probe.ask("action()", x::action);
        return probe.answers;
    }

    private void ask(String what, LongSupplier call) {
        String answer;
        try {
            answer = String.valueOf(call.getAsLong());
        } catch (RuntimeException e) {
            answer = "throws." + e.getClass().getSimpleName();
        }
        answers.add(what + " " + answer);
    }

    private void tell(String what, Runnable call) {
        ask(what, () -> {
            call.run();
            return 0;
        });
    }

    private void askCounts() {
        for (int what = 0; what <= 4; what++) {
            int w = what;
            ask("count(" + w + ")", () -> x.count(w));
        }
    }

    private void askRow() {
        for (int k = 0; k <= x.count(4); k++) {
            int place = k;
            ask("at(" + k + ")", () -> x.at(place));
        }
    }

    private void askFraction(int what, int i) {
        ask("above(" + what + ", " + i + ")", () -> x.above(what, i));
        ask("below(" + what + ", " + i + ")", () -> x.below(what, i));
    }

    private void askSteps() {
        for (int s = 0; s < x.count(3); s++) {
            int step = s;
            ask("done(" + s + ")", () -> x.done(step));
            askFraction(0, s);
            askFraction(1, s);
        }
    }

    private void askState() {
        for (int n = 0; n < 8; n++) {
            askFraction(2, n);
        }
        long facts = 0;
        for (int f = 0; f < 16; f++) {
            facts |= x.holds(f) ? 1L << f : 0;
        }
        answers.add("facts " + facts);
    }

    private void askHand() {
        tell("number(7)", () -> x.number(7));
        ask("step(0)", () -> x.step(0));
        x.clear();
        ask("step(0)", () -> x.step(0));
        askSteps();
        ask("judge()", x::judge);
        askFraction(2, 7);
    }

    private void askAction(int a) {
        x.clear();
        x.moment(0, 1);
        x.amount(1, 1);
        x.step(a);
        ask("judge() of action " + a, x::judge);
        askState();
        x.push(0);
        x.push(1);
        ask("arrange() of action " + a, x::arrange);
        askSteps();
    }

    private void askGoal() {
        for (int times = 0; times < 2; times++) {
            boolean value = times == 1;
            for (int f = 0; f < 16; f++) {
                x.fact(f, value);
            }
            ask("judge() with all facts " + value, x::judge);
            x.amount(value ? 100000 : -100000, 1);
            for (int n = 0; n < 8; n++) {
                x.number(n);
            }
            ask("judge() with all numbers so", x::judge);
        }
    }

    /** How many needs and changes more an action takes. */
    private void askRoom(int a) {
        for (int i = 0; i < 9; i++) {
            tell("need(" + a + ", 1, 15, true)", () -> x.need(a, 1, 15, true));
        }
        for (int i = 0; i < 7; i++) {
            int f = 8 + i;
            tell("make(" + a + ", 0, " + f + ", true)", () -> x.make(a, 0, f, true));
        }
    }
}
