import java.util.List;
import java.util.function.Consumer;

/**
 * Each call that the promises refuse: it throws what its promise lists, of several that apply the first one listed,
 * and nothing has changed after it. That is seen on twins: two objects are told the same, one of them refuses a
 * call, and whatever is asked afterwards, both answer alike.
 */
final class RefusalTest {
    private static final Check check = new Check();
    private static final String INDEX = "IndexOutOfBoundsException";
    private static final String ARGUMENT = "IllegalArgumentException";
    private static final String STATE = "IllegalStateException";
    private static final int LEAST = Integer.MIN_VALUE;
    private static final int GREATEST = Integer.MAX_VALUE;
    private static final int[] NO_FACT = {-1, 16, 32, LEAST, GREATEST};
    private static final int[] NO_NUMBER = {-1, 8, 16, LEAST, GREATEST};
    private static final int[] NO_TIME = {-1, 3, LEAST, GREATEST};
    private static final int[] NO_TIME_OF_CHANGE = {-1, 1, 3, LEAST, GREATEST};

    private RefusalTest() {
    }

    public static void main(String[] args) {
        fractionsInHand();
        epsilon();
        firstState();
        wish();
        want();
        action();
        need();
        compare();
        eightNeeds();
        make();
        change();
        sixChanges();
        changedAlready();
        last();
        step();
        push();
        arrange();
        seek();
        count();
        done();
        aboveAndBelow();
        holds();
        check.close();
    }

    private static void newborn(PlanJudge x) {
        check.same("a new object has no actions", x.count(2), 0);
    }

    /** Two actions with room for more, two steps, half of their points in the row, and a fault 2 that was found. */
    private static void small(PlanJudge x) {
        x.action();
        x.action();
        x.amount(1, 7);
        x.epsilon();
        x.fact(3, true);
        x.amount(9, 2);
        x.number(2);
        x.wish(0, 1);
        x.wish(3, 0);
        x.amount(2, 1);
        x.want(2, 3);
        x.need(0, 0, 3, true);
        x.compare(0, 1, 2, 4);
        x.make(0, 0, 0, true);
        x.change(0, 2, 2, 1);
        x.last(0, 1, -1);
        x.need(1, 0, 1, true);
        x.amount(1, 3);
        x.last(1, 0, 2);
        x.moment(3, 7);
        x.amount(5, 7);
        x.step(0);
        x.step(1);
        x.push(0);
        x.push(2);
        check.fault("judge()", x, x.judge(), 2, 2);
    }

    /** Twelve actions, eight needs and six changes of the first and the last one, twelve steps and all their points. */
    private static void full(PlanJudge x) {
        for (int a = 0; a < 12; a++) {
            x.action();
        }
        x.amount(1, 3);
        for (int i = 0; i < 8; i++) {
            x.need(0, i % 3, i, false);
            x.compare(11, i % 3, i, 1);
        }
        for (int i = 0; i < 6; i++) {
            x.make(0, i % 2 == 0 ? 0 : 2, 8 + i, true);
            x.change(11, i % 2 == 0 ? 0 : 2, i, 2);
        }
        x.moment(1, 5);
        for (int s = 0; s < 12; s++) {
            x.step(s);
            x.push(2 * s);
            x.push(2 * s + 1);
        }
        check.fault("arrange()", x, x.arrange(), 0, -1);
    }

    private static void refuses(Consumer<PlanJudge> story, String due, String what, Consumer<PlanJudge> call) {
        for (int part = 0; part < 4; part++) {
            PlanJudge one = new PlanJudge();
            PlanJudge other = new PlanJudge();
            story.accept(one);
            story.accept(other);
            check.throwsDue(what, () -> call.accept(one), due);
            check.alike("after the refused " + what, probe(part, one), probe(part, other));
        }
    }

    /** In parts, as an object is used for 512 calls at most. */
    private static List<String> probe(int part, PlanJudge x) {
        return switch (part) {
            case 0 -> Probe.ofPlan(x);
            case 1 -> Probe.ofGoal(x);
            case 2 -> Probe.ofAction(x, 0);
            default -> Probe.ofAction(x, x.count(2) - 1);
        };
    }

    private static void refusesAnywhere(String due, String what, Consumer<PlanJudge> call) {
        refuses(RefusalTest::newborn, due, what, call);
        refuses(RefusalTest::small, due, what, call);
        refuses(RefusalTest::full, due, what, call);
    }

    private static void refusesWithActions(String due, String what, Consumer<PlanJudge> call) {
        refuses(RefusalTest::small, due, what, call);
        refuses(RefusalTest::full, due, what, call);
    }

    private static Consumer<PlanJudge> smallThen(Consumer<PlanJudge> more) {
        Consumer<PlanJudge> story = RefusalTest::small;
        return story.andThen(more);
    }

    private static Consumer<PlanJudge> fullThen(Consumer<PlanJudge> more) {
        Consumer<PlanJudge> story = RefusalTest::full;
        return story.andThen(more);
    }

    private static void fractionsInHand() {
        int[][] wrong = {{-100001, 1}, {100001, 1}, {LEAST, 1000}, {GREATEST, 1000}, {1, 0}, {1, -1}, {1, 1001}, {0, 0},
            {1, LEAST}, {1, GREATEST}, {100001, 1001}, {-100001, 0}};
        for (int[] w : wrong) {
            String told = "(" + w[0] + ", " + w[1] + ")";
            check.part("promise 2: p isn't -100000 .. 100000, or q isn't 1 .. 1000");
            refusesAnywhere(ARGUMENT, "amount" + told, x -> x.amount(w[0], w[1]));
            check.part("promise 3: likewise");
            refusesAnywhere(ARGUMENT, "moment" + told, x -> x.moment(w[0], w[1]));
        }
    }

    private static void epsilon() {
        check.part("promise 4: it isn't above 0");
        refuses(RefusalTest::newborn, ARGUMENT, "epsilon() of a new object", PlanJudge::epsilon);
        for (int p : new int[] {0, -1, -100000}) {
            refuses(smallThen(x -> x.amount(p, 1000)), ARGUMENT, "epsilon() of " + p + "/1000", PlanJudge::epsilon);
            refuses(fullThen(x -> x.amount(p, 1000)), ARGUMENT, "epsilon() of " + p + "/1000", PlanJudge::epsilon);
        }
    }

    private static void firstState() {
        for (int f : NO_FACT) {
            check.part("promise 5: there is no such fact");
            refusesAnywhere(INDEX, "fact(" + f + ", true)", x -> x.fact(f, true));
            refusesAnywhere(INDEX, "fact(" + f + ", false)", x -> x.fact(f, false));
        }
        for (int n : NO_NUMBER) {
            check.part("promise 6: there is no such number");
            refusesAnywhere(INDEX, "number(" + n + ")", x -> x.number(n));
        }
    }

    private static void wish() {
        int[] wrong = {-2, 2, LEAST, GREATEST};
        for (int f : NO_FACT) {
            check.part("promise 7: there is no such fact");
            refusesAnywhere(INDEX, "wish(" + f + ", 1)", x -> x.wish(f, 1));
            refusesAnywhere(INDEX, "wish(" + f + ", -1)", x -> x.wish(f, -1));
            for (int v : wrong) {
                check.part("promise 7: no such fact goes ahead of another v");
                refusesAnywhere(INDEX, "wish(" + f + ", " + v + ")", x -> x.wish(f, v));
            }
        }
        for (int v : wrong) {
            check.part("promise 7: v is none of 1, 0, -1");
            for (int f : new int[] {0, 3, 15}) {
                refusesAnywhere(ARGUMENT, "wish(" + f + ", " + v + ")", x -> x.wish(f, v));
            }
        }
    }

    private static void want() {
        int[] wrong = {-2, 5, LEAST, GREATEST};
        for (int n : NO_NUMBER) {
            check.part("promise 8: there is no such number");
            refusesAnywhere(INDEX, "want(" + n + ", 0)", x -> x.want(n, 0));
            refusesAnywhere(INDEX, "want(" + n + ", -1)", x -> x.want(n, -1));
            for (int how : wrong) {
                check.part("promise 8: no such number goes ahead of another comparison");
                refusesAnywhere(INDEX, "want(" + n + ", " + how + ")", x -> x.want(n, how));
            }
        }
        for (int how : wrong) {
            check.part("promise 8: the comparison is none of 0 .. 4 and -1");
            for (int n : new int[] {0, 2, 7}) {
                refusesAnywhere(ARGUMENT, "want(" + n + ", " + how + ")", x -> x.want(n, how));
            }
        }
    }

    private static void action() {
        check.part("promise 9: there are 12");
        refuses(RefusalTest::full, STATE, "action()", PlanJudge::action);
    }

    /** For each action that isn't there: with no actions, with two, and with all twelve. */
    private static void refusesNoAction(String what, ActionCall call) {
        for (int a : new int[] {-1, 0, 11, LEAST, GREATEST}) {
            refuses(RefusalTest::newborn, INDEX, what + " of action " + a, x -> call.run(x, a));
        }
        for (int a : new int[] {-1, 2, 12, LEAST, GREATEST}) {
            refuses(RefusalTest::small, INDEX, what + " of action " + a, x -> call.run(x, a));
        }
        for (int a : new int[] {-1, 12, LEAST, GREATEST}) {
            refuses(RefusalTest::full, INDEX, what + " of action " + a, x -> call.run(x, a));
        }
    }

    interface ActionCall {
        void run(PlanJudge x, int a);
    }

    private static void need() {
        check.part("promise 10: there is no such action, whatever else is wrong");
        refusesNoAction("need", (x, a) -> x.need(a, 0, 0, true));
        refusesNoAction("need at time 3", (x, a) -> x.need(a, 3, 0, true));
        refusesNoAction("need of fact 16", (x, a) -> x.need(a, 0, 16, true));
        for (int f : NO_FACT) {
            check.part("promise 10: there is no such fact");
            refuses(RefusalTest::small, INDEX, "need of fact " + f, x -> x.need(1, 0, f, true));
            check.part("promise 10: no such fact goes ahead of another time and of eight needs");
            refuses(RefusalTest::small, INDEX, "need of fact " + f + ", time -1", x -> x.need(0, -1, f, false));
            refuses(RefusalTest::full, INDEX, "need of fact " + f, x -> x.need(0, 0, f, true));
            refuses(RefusalTest::full, INDEX, "need of fact " + f + ", time 3", x -> x.need(0, 3, f, true));
        }
        for (int time : NO_TIME) {
            check.part("promise 10: the time is none of 0, 1, 2");
            refuses(RefusalTest::small, ARGUMENT, "need at time " + time, x -> x.need(0, time, 15, true));
            check.part("promise 10: another time goes ahead of eight needs");
            refuses(RefusalTest::full, ARGUMENT, "need at time " + time, x -> x.need(0, time, 0, true));
        }
    }

    private static void compare() {
        check.part("promise 11: there is no such action, whatever else is wrong");
        refusesNoAction("compare", (x, a) -> x.compare(a, 0, 0, 0));
        refusesNoAction("compare at time -1", (x, a) -> x.compare(a, -1, 0, 0));
        refusesNoAction("compare of number 8", (x, a) -> x.compare(a, 0, 8, 5));
        for (int n : NO_NUMBER) {
            check.part("promise 11: there is no such number");
            refuses(RefusalTest::small, INDEX, "compare of number " + n, x -> x.compare(1, 0, n, 4));
            check.part("promise 11: no such number goes ahead of another time or comparison and of eight needs");
            refuses(RefusalTest::small, INDEX, "compare of number " + n + ", time 3", x -> x.compare(0, 3, n, 0));
            refuses(RefusalTest::small, INDEX, "compare of number " + n + ", how 5", x -> x.compare(0, 0, n, 5));
            refuses(RefusalTest::full, INDEX, "compare of number " + n, x -> x.compare(11, 0, n, 0));
        }
        for (int time : NO_TIME) {
            check.part("promise 11: the time is none of 0, 1, 2");
            refuses(RefusalTest::small, ARGUMENT, "compare at time " + time, x -> x.compare(0, time, 7, 4));
            check.part("promise 11: another time goes ahead of eight needs");
            refuses(RefusalTest::full, ARGUMENT, "compare at time " + time, x -> x.compare(11, time, 7, 4));
        }
        for (int how : new int[] {-2, -1, 5, LEAST, GREATEST}) {
            check.part("promise 11: the comparison is none of 0 .. 4");
            refuses(RefusalTest::small, ARGUMENT, "compare, how " + how, x -> x.compare(0, 0, 7, how));
            check.part("promise 11: another comparison goes ahead of eight needs");
            refuses(RefusalTest::full, ARGUMENT, "compare, how " + how, x -> x.compare(11, 0, 7, how));
        }
    }

    private static void eightNeeds() {
        for (int time = 0; time <= 2; time++) {
            int t = time;
            check.part("promise 10: it has eight needs");
            refuses(RefusalTest::full, STATE, "need beside eight facts", x -> x.need(0, t, 15, true));
            refuses(RefusalTest::full, STATE, "need of the same once more", x -> x.need(0, t, 0, false));
            refuses(RefusalTest::full, STATE, "need beside eight numbers", x -> x.need(11, t, 15, true));
            check.part("promise 11: likewise");
            refuses(RefusalTest::full, STATE, "compare beside eight facts", x -> x.compare(0, t, 0, 4));
            refuses(RefusalTest::full, STATE, "compare beside eight numbers", x -> x.compare(11, t, 0, 4));
        }
    }

    private static void make() {
        check.part("promise 12: there is no such action, whatever else is wrong");
        refusesNoAction("make", (x, a) -> x.make(a, 0, 0, true));
        refusesNoAction("make at time 1", (x, a) -> x.make(a, 1, 0, true));
        refusesNoAction("make of fact -1", (x, a) -> x.make(a, 0, -1, true));
        for (int f : NO_FACT) {
            check.part("promise 12: there is no such fact");
            refuses(RefusalTest::small, INDEX, "make of fact " + f, x -> x.make(1, 2, f, true));
            check.part("promise 12: no such fact goes ahead of another time and of six changes");
            refuses(RefusalTest::small, INDEX, "make of fact " + f + ", time 1", x -> x.make(0, 1, f, false));
            refuses(RefusalTest::full, INDEX, "make of fact " + f, x -> x.make(0, 0, f, true));
        }
        for (int time : NO_TIME_OF_CHANGE) {
            check.part("promise 12: the time is neither 0 nor 2");
            refuses(RefusalTest::small, ARGUMENT, "make at time " + time, x -> x.make(0, time, 15, true));
            check.part("promise 12: another time goes ahead of six changes, and of a fact that it changes already");
            refuses(RefusalTest::full, ARGUMENT, "make at time " + time, x -> x.make(0, time, 0, true));
            refuses(RefusalTest::full, ARGUMENT, "make at time " + time, x -> x.make(0, time, 8, true));
        }
    }

    private static void change() {
        check.part("promise 13: there is no such action, whatever else is wrong");
        refusesNoAction("change", (x, a) -> x.change(a, 0, 0, 0));
        refusesNoAction("change at time 1", (x, a) -> x.change(a, 1, 0, 0));
        refusesNoAction("change by way 4", (x, a) -> x.change(a, 0, 8, 4));
        for (int n : NO_NUMBER) {
            check.part("promise 13: there is no such number");
            refuses(RefusalTest::small, INDEX, "change of number " + n, x -> x.change(1, 2, n, 0));
            check.part("promise 13: no such number goes ahead of another time or way and of six changes");
            refuses(RefusalTest::small, INDEX, "change of number " + n + ", time 1", x -> x.change(0, 1, n, 0));
            refuses(RefusalTest::small, INDEX, "change of number " + n + ", way 4", x -> x.change(0, 0, n, 4));
            refuses(RefusalTest::full, INDEX, "change of number " + n, x -> x.change(11, 0, n, 0));
        }
        for (int time : NO_TIME_OF_CHANGE) {
            check.part("promise 13: the time is neither 0 nor 2");
            refuses(RefusalTest::small, ARGUMENT, "change at time " + time, x -> x.change(0, time, 7, 1));
            check.part("promise 13: another time goes ahead of six changes");
            refuses(RefusalTest::full, ARGUMENT, "change at time " + time, x -> x.change(11, time, 0, 1));
        }
        for (int way : new int[] {-1, 4, LEAST, GREATEST}) {
            check.part("promise 13: the way is none of 0 .. 3");
            refuses(RefusalTest::small, ARGUMENT, "change by way " + way, x -> x.change(0, 0, 7, way));
            check.part("promise 13: another way goes ahead of a number that it changes already, and of six changes");
            refuses(RefusalTest::small, ARGUMENT, "change by way " + way, x -> x.change(0, 2, 2, way));
            refuses(RefusalTest::full, ARGUMENT, "change by way " + way, x -> x.change(11, 0, 0, way));
        }
    }

    private static void sixChanges() {
        for (int time = 0; time <= 2; time += 2) {
            int t = time;
            check.part("promise 12: it has six changes");
            refuses(RefusalTest::full, STATE, "make beside six facts", x -> x.make(0, t, 0, true));
            refuses(RefusalTest::full, STATE, "make beside six numbers", x -> x.make(11, t, 0, true));
            check.part("promise 13: likewise");
            refuses(RefusalTest::full, STATE, "change beside six facts", x -> x.change(0, t, 0, 1));
            refuses(RefusalTest::full, STATE, "change beside six numbers", x -> x.change(11, t, 7, 1));
        }
    }

    private static void changedAlready() {
        check.part("promise 12: or changes this fact at this time already");
        refuses(RefusalTest::small, STATE, "make once more", x -> x.make(0, 0, 0, true));
        refuses(RefusalTest::small, STATE, "make the other way", x -> x.make(0, 0, 0, false));
        check.part("promise 13: likewise");
        for (int way = 0; way <= 3; way++) {
            int w = way;
            refuses(RefusalTest::small, STATE, "change once more, way " + way, x -> x.change(0, 2, 2, w));
        }
    }

    private static void last() {
        check.part("promise 14: there is no such action, whatever else is wrong");
        refusesNoAction("last", (x, a) -> x.last(a, 0, -1));
        refusesNoAction("last, which 2", (x, a) -> x.last(a, 2, -1));
        refusesNoAction("last, which -1, number 8", (x, a) -> x.last(a, -1, 8));
        for (int n : new int[] {-3, 8, LEAST, GREATEST}) {
            for (int which = 0; which <= 1; which++) {
                int w = which;
                check.part("promise 14: there is no such number");
                refusesWithActions(INDEX, "last(0, " + w + ", " + n + ")", x -> x.last(0, w, n));
                refusesWithActions(INDEX, "last(1, " + w + ", " + n + ")", x -> x.last(1, w, n));
            }
            check.part("promise 14: no such number goes ahead of another which");
            refusesWithActions(INDEX, "last(0, 2, " + n + ")", x -> x.last(0, 2, n));
            refusesWithActions(INDEX, "last(1, -1, " + n + ")", x -> x.last(1, -1, n));
        }
        for (int which : new int[] {-1, 2, LEAST, GREATEST}) {
            check.part("promise 14: which is neither 0 nor 1");
            for (int n : new int[] {-2, -1, 0, 7}) {
                refusesWithActions(ARGUMENT, "last(0, " + which + ", " + n + ")", x -> x.last(0, which, n));
                refusesWithActions(ARGUMENT, "last(1, " + which + ", " + n + ")", x -> x.last(1, which, n));
            }
        }
    }

    private static void step() {
        check.part("promise 15: there is no such action, whatever else is wrong");
        refusesNoAction("step", PlanJudge::step);
        for (int a : new int[] {-1, 2}) {
            refuses(smallThen(x -> x.amount(0, 1)), INDEX, "step(" + a + ") that lasts 0", x -> x.step(a));
            refuses(smallThen(x -> x.moment(-1, 1)), INDEX, "step(" + a + ") from -1 on", x -> x.step(a));
        }
        check.part("promise 15: the MOMENT is below 0");
        for (int p : new int[] {-1, -100000}) {
            refuses(smallThen(x -> x.moment(p, 1000)), ARGUMENT, "step from " + p + "/1000 on", x -> x.step(1));
        }
        check.part("promise 15: the AMOUNT isn't above 0");
        for (int p : new int[] {0, -1, -100000}) {
            refuses(smallThen(x -> x.amount(p, 1000)), ARGUMENT, "step that lasts " + p + "/1000", x -> x.step(1));
        }
        check.part("promise 15: both");
        refuses(smallThen(x -> x.amount(0, 1)).andThen(x -> x.moment(-1, 1)), ARGUMENT, "step", x -> x.step(1));
        check.part("promise 15: a MOMENT below 0 or an AMOUNT that isn't above 0 goes ahead of 12 steps");
        refuses(fullThen(x -> x.moment(-1, 1000)), ARGUMENT, "step", x -> x.step(1));
        refuses(fullThen(x -> x.amount(0, 1000)), ARGUMENT, "step", x -> x.step(1));
        check.part("promise 15: there are 12");
        for (int a : new int[] {0, 5, 11}) {
            refuses(RefusalTest::full, STATE, "step(" + a + ")", x -> x.step(a));
        }
    }

    private static void push() {
        check.part("promise 18: there is no such point");
        for (int point : new int[] {-1, 0, 1, LEAST, GREATEST}) {
            refuses(RefusalTest::newborn, INDEX, "push(" + point + ") without steps", x -> x.push(point));
        }
        for (int point : new int[] {-2, -1, 4, 5, LEAST, GREATEST}) {
            refuses(RefusalTest::small, INDEX, "push(" + point + ") with two steps", x -> x.push(point));
        }
        for (int point : new int[] {-1, 24, 25, 32, LEAST, GREATEST}) {
            refuses(RefusalTest::full, INDEX, "push(" + point + ") with twelve steps", x -> x.push(point));
        }
        check.part("promise 18: it is in it");
        refuses(RefusalTest::small, STATE, "push(0)", x -> x.push(0));
        refuses(RefusalTest::small, STATE, "push(2)", x -> x.push(2));
        refuses(smallThen(x -> x.push(3)), STATE, "push(3)", x -> x.push(3));
        for (int point = 0; point < 24; point++) {
            int p = point;
            refuses(RefusalTest::full, STATE, "push(" + p + ")", x -> x.push(p));
        }
        check.part("promise 18: it is an end and its start isn't");
        Consumer<PlanJudge> noRow = smallThen(x -> x.pop()).andThen(x -> x.pop());
        refuses(noRow, STATE, "push(1) to no points", x -> x.push(1));
        refuses(noRow, STATE, "push(3) to no points", x -> x.push(3));
        refuses(noRow.andThen(x -> x.push(2)), STATE, "push(1) to point 2", x -> x.push(1));
        refuses(smallThen(x -> x.pop()), STATE, "push(3) behind its start that went", x -> x.push(3));
    }

    private static void arrange() {
        check.part("promise 20: a point of the plan isn't in the row");
        refuses(RefusalTest::small, STATE, "arrange() without the ends", PlanJudge::arrange);
        refuses(smallThen(x -> x.push(1)), STATE, "arrange() without point 3", PlanJudge::arrange);
        refuses(smallThen(x -> x.push(3)), STATE, "arrange() without point 1", PlanJudge::arrange);
        refuses(smallThen(x -> x.push(1)).andThen(x -> x.push(3)).andThen(x -> x.step(0)), STATE,
                "arrange() without a new step's points", PlanJudge::arrange);
        refuses(fullThen(x -> x.pop()), STATE, "arrange() with 23 of 24 points", PlanJudge::arrange);
        Consumer<PlanJudge> oneStep = x -> {
            small(x);
            x.clear();
            x.step(0);
        };
        refuses(oneStep, STATE, "arrange() of no points", PlanJudge::arrange);
    }

    private static void seek() {
        check.part("promise 21: so many events are none of 0 .. 6");
        for (int most : new int[] {-1, 7, 8, LEAST, GREATEST}) {
            refusesAnywhere(ARGUMENT, "seek(" + most + ")", x -> x.seek(most));
        }
    }

    private static void count() {
        check.part("promise 22: another what");
        for (int what : new int[] {-1, 5, LEAST, GREATEST}) {
            refusesAnywhere(INDEX, "count(" + what + ")", x -> x.count(what));
        }
    }

    private static void done() {
        check.part("promise 23: there is no such step");
        for (int s : new int[] {-1, 0, LEAST, GREATEST}) {
            refuses(RefusalTest::newborn, INDEX, "done(" + s + ")", x -> x.done(s));
        }
        for (int s : new int[] {-1, 2, 12, LEAST, GREATEST}) {
            refuses(RefusalTest::small, INDEX, "done(" + s + ")", x -> x.done(s));
        }
        for (int s : new int[] {-1, 12, LEAST, GREATEST}) {
            refuses(RefusalTest::full, INDEX, "done(" + s + ")", x -> x.done(s));
        }
    }

    private static void refusesAsked(Consumer<PlanJudge> story, String due, int what, int i) {
        String asked = "(" + what + ", " + i + ")";
        refuses(story, due, "above" + asked, x -> x.above(what, i));
        refuses(story, due, "below" + asked, x -> x.below(what, i));
    }

    private static void aboveAndBelow() {
        check.part("promises 25 and 26: another what, also where there is no such step or number");
        for (int what : new int[] {-1, 3, LEAST, GREATEST}) {
            for (int i : new int[] {0, 1, -1, 99}) {
                refusesAsked(RefusalTest::newborn, ARGUMENT, what, i);
                refusesAsked(RefusalTest::small, ARGUMENT, what, i);
            }
        }
        check.part("promises 25 and 26: no such step");
        for (int what = 0; what <= 1; what++) {
            for (int s : new int[] {-1, 0, LEAST, GREATEST}) {
                refusesAsked(RefusalTest::newborn, INDEX, what, s);
            }
            for (int s : new int[] {-1, 2, 7, 12, LEAST, GREATEST}) {
                refusesAsked(RefusalTest::small, INDEX, what, s);
            }
            for (int s : new int[] {-1, 12, LEAST, GREATEST}) {
                refusesAsked(RefusalTest::full, INDEX, what, s);
            }
        }
        check.part("promises 25 and 26: no such number");
        for (int n : NO_NUMBER) {
            refusesAsked(RefusalTest::newborn, INDEX, 2, n);
            refusesAsked(RefusalTest::full, INDEX, 2, n);
        }
    }

    private static void holds() {
        check.part("promise 27: there is no such fact");
        for (int f : NO_FACT) {
            refusesAnywhere(INDEX, "holds(" + f + ")", x -> x.holds(f));
        }
    }
}
