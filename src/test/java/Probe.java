import java.util.ArrayList;
import java.util.List;
import java.util.function.LongSupplier;

/** Asks an object for all that it tells and does, so that two objects can be held against each other. */
final class Probe {
    private final PlanJudge x;
    private final List<String> answers = new ArrayList<>();

    private Probe(PlanJudge x) {
        this.x = x;
    }

    /** What it shows, its plan and row, the AMOUNT and the MOMENT. */
    static List<String> ofPlan(PlanJudge x) {
        Probe probe = new Probe(x);
        probe.askCounts();
        probe.askRow();
        probe.askSteps();
        probe.askState();
        probe.ask("judge()", x::judge);
        probe.askState();
        probe.pushAll();
        probe.ask("arrange()", x::arrange);
        probe.askCounts();
        probe.askSteps();
        probe.askHand();
        return probe.answers;
    }

    /** What its first state, EPSILON and this action do, whatever the goal is. */
    static List<String> ofAction(PlanJudge x, int a) {
        Probe probe = new Probe(x);
        probe.dropGoal();
        x.clear();
        probe.ask("judge()", x::judge);
        probe.askState();
        if (a >= 0 && a < x.count(2)) {
            probe.askAction(a);
            for (int value = 0; value < 2; value++) {
                probe.setFacts(value == 1);
                probe.askAction(a);
            }
            probe.askRoom(a);
        }
        probe.ask("action()", x::action);
        return probe.answers;
    }

    /** Whether the goal is so, with numbers low and high, with no fact, each fact alone, and all of them. */
    static List<String> ofGoal(PlanJudge x) {
        Probe probe = new Probe(x);
        x.clear();
        for (int up : new int[] {-100000, 100000}) {
            x.amount(up, 1);
            for (int n = 0; n < 8; n++) {
                x.number(n);
            }
            probe.setFacts(true);
            probe.ask("judge() with all facts and numbers " + up, x::judge);
            probe.setFacts(false);
            probe.ask("judge() with no fact and numbers " + up, x::judge);
            for (int f = 0; f < 16; f++) {
                x.fact(f, true);
                probe.ask("judge() with fact " + f + " and numbers " + up, x::judge);
                x.fact(f, false);
            }
        }
        return probe.answers;
    }

    private void ask(String what, LongSupplier call) {
        String answer;
        try {
            answer = String.valueOf(call.getAsLong());
        } catch (RuntimeException e) {
            answer = "throws." + e.getClass().getSimpleName();
        }
        answers.add(what + " " + answer);
    }

    private void tell(String what, Runnable call) {
        ask(what, () -> {
            call.run();
            return 0;
        });
    }

    private void askCounts() {
        for (int what = 0; what <= 4; what++) {
            int w = what;
            ask("count(" + w + ")", () -> x.count(w));
        }
    }

    private void askRow() {
        for (int k = 0; k <= x.count(4); k++) {
            int place = k;
            ask("at(" + k + ")", () -> x.at(place));
        }
    }

    private void askFraction(int what, int i) {
        ask("above(" + what + ", " + i + ")", () -> x.above(what, i));
        ask("below(" + what + ", " + i + ")", () -> x.below(what, i));
    }

    private void pushAll() {
        for (int p = 0; p < 2 * x.count(3); p++) {
            int point = p;
            tell("push(" + p + ")", () -> x.push(point));
        }
    }

    private void askSteps() {
        for (int s = 0; s < x.count(3); s++) {
            int step = s;
            ask("done(" + s + ")", () -> x.done(step));
            askFraction(0, s);
            askFraction(1, s);
        }
    }

    private void askState() {
        for (int n = 0; n < 8; n++) {
            askFraction(2, n);
        }
        long facts = 0;
        for (int f = 0; f < 16; f++) {
            facts |= x.holds(f) ? 1L << f : 0;
        }
        answers.add("facts " + facts);
    }

    private void askHand() {
        tell("number(7)", () -> x.number(7));
        ask("step(0)", () -> x.step(0));
        x.clear();
        ask("step(0)", () -> x.step(0));
        askSteps();
        ask("judge()", x::judge);
        askFraction(2, 7);
    }

    private void dropGoal() {
        for (int f = 0; f < 16; f++) {
            x.wish(f, -1);
            x.want(f / 2, -1);
        }
    }

    private void setFacts(boolean value) {
        for (int f = 0; f < 16; f++) {
            x.fact(f, value);
        }
    }

    private void askAction(int a) {
        x.clear();
        x.moment(0, 1);
        x.amount(1, 1);
        x.step(a);
        ask("judge() of action " + a, x::judge);
        askState();
        x.push(0);
        x.push(1);
        ask("arrange() of action " + a, x::arrange);
        askSteps();
    }

    /** How many needs and changes more an action takes. */
    private void askRoom(int a) {
        for (int i = 0; i < 9; i++) {
            tell("need(" + a + ", 1, 15, true)", () -> x.need(a, 1, 15, true));
        }
        for (int i = 0; i < 7; i++) {
            int f = 8 + i;
            tell("make(" + a + ", 0, " + f + ", true)", () -> x.make(a, 0, f, true));
        }
    }
}
