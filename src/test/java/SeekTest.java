/** Promise 21: the shortest row to the goal, the first one of these, and its plan. */
final class SeekTest {
    private static final Check check = new Check();

    private SeekTest() {
    }

    public static void main(String[] args) {
        goalIsSoAtFirst();
        refused();
        noneIsFound();
        fewestEvents();
        firstRow();
        endsBeforeOrBehind();
        sameActionAgain();
        withinEachOther();
        faultsArePassedBy();
        unfitEpsilon();
        twelveActions();
        judgedBefore();
        hardest();
        check.close();
    }

    private static PlanJudge actions(int size) {
        return Check.objectWith(size, 1);
    }

    private static void row(PlanJudge x, int... points) {
        check.same("points", x.count(4), points.length);
        check.same("steps", x.count(3), (points.length + 1) / 2);
        for (int k = 0; k < points.length; k++) {
            check.same("at(" + k + ")", x.at(k), points[k]);
        }
    }

    private static void done(PlanJudge x, int... actions) {
        for (int s = 0; s < actions.length; s++) {
            check.same("done(" + s + ")", x.done(s), actions[s]);
        }
    }

    private static void goalIsSoAtFirst() {
        check.part("promise 21, no events");
        PlanJudge x = actions(2);
        x.step(1);
        x.push(0);
        check.same("seek(6)", x.seek(6), 0);
        row(x);
        check.throwsIndex("done(0)", () -> x.done(0));
        check.same("step(0)", x.step(0), 0);
        check.throwsNothing("push(0)", () -> x.push(0));
    }

    private static void refused() {
        check.part("promise 21, refused");
        PlanJudge x = actions(1);
        x.step(0);
        x.push(0);
        for (int most : new int[] {-1, 7, Integer.MIN_VALUE, Integer.MAX_VALUE}) {
            check.throwsArgument("seek(" + most + ")", () -> x.seek(most));
        }
        row(x, 0);
    }

    private static void noneIsFound() {
        check.part("promise 21, none");
        PlanJudge x = actions(2);
        x.moment(3, 1);
        x.step(1);
        x.push(0);
        x.wish(0, 1);
        for (int most = 0; most <= 6; most++) {
            check.same("seek(" + most + ")", x.seek(most), -1);
        }
        row(x, 0);
        done(x, 1);
        check.fraction(x, 0, 0, 3, 1);
        check.fraction(x, 1, 0, 1, 1);
        check.throwsState("push(0) again", () -> x.push(0));
        PlanJudge none = new PlanJudge();
        none.wish(0, 1);
        check.same("seek(6) without actions", none.seek(6), -1);
    }

    private static PlanJudge counting(int goal) {
        PlanJudge x = actions(2);
        x.change(0, 2, 0, 1);
        x.amount(goal, 1);
        x.want(0, 2);
        return x;
    }

    private static void fewestEvents() {
        check.part("promise 21, the fewest events");
        for (int goal = 0; goal <= 4; goal++) {
            for (int most = 0; most <= 6; most++) {
                PlanJudge x = counting(goal);
                check.same("seek(" + most + ") for " + goal, x.seek(most), 2 * goal <= most ? 2 * goal : -1);
            }
        }
        PlanJudge x = actions(3);
        x.make(0, 2, 0, true);
        x.need(1, 0, 0, true);
        x.make(1, 2, 1, true);
        x.make(2, 0, 1, true);
        x.wish(1, 1);
        check.same("seek(6)", x.seek(6), 2);
        row(x, 0, 1);
        done(x, 2);
    }

    private static void firstRow() {
        check.part("promise 21, the first one");
        PlanJudge x = actions(4);
        x.make(1, 0, 0, true);
        x.make(2, 2, 0, true);
        x.make(3, 2, 1, true);
        x.wish(0, 1);
        check.same("seek(6)", x.seek(6), 2);
        done(x, 1);
        x.wish(1, 1);
        check.same("seek(6)", x.seek(6), 4);
        row(x, 0, 2, 1, 3);
        done(x, 1, 3);
        x.need(3, 0, 5, true);
        x.make(2, 2, 5, true);
        x.make(2, 0, 1, true);
        check.same("seek(6)", x.seek(6), 2);
        done(x, 2);
    }

    private static void endsBeforeOrBehind() {
        check.part("promise 21, event by event");
        PlanJudge x = actions(2);
        x.make(0, 2, 0, true);
        x.need(1, 0, 0, true);
        x.make(1, 0, 1, true);
        x.wish(1, 1);
        check.same("seek(6)", x.seek(6), 4);
        row(x, 0, 1, 2, 3);
        done(x, 0, 1);
        check.fraction(x, 0, 0, 0, 1);
        check.fraction(x, 1, 0, 1, 1000);
        check.fraction(x, 0, 1, 1, 500);
    }

    private static void sameActionAgain() {
        check.part("promise 21, one action several times");
        PlanJudge x = counting(3);
        check.same("seek(6)", x.seek(6), 6);
        row(x, 0, 2, 4, 1, 3, 5);
        done(x, 0, 0, 0);
        check.fraction(x, 0, 2, 0, 1);
        check.fraction(x, 1, 2, 1, 1000);
        PlanJudge y = counting(2);
        y.need(0, 1, 7, true);
        y.make(0, 0, 7, true);
        y.make(0, 2, 7, false);
        check.same("seek(6) with the action needing its own fact", y.seek(6), 4);
        row(y, 0, 1, 2, 3);
    }

    private static void withinEachOther() {
        check.part("promise 21, within each other");
        PlanJudge x = actions(3);
        x.make(0, 0, 0, true);
        x.make(0, 2, 0, false);
        x.need(1, 1, 0, true);
        x.make(1, 0, 1, true);
        x.make(1, 2, 1, false);
        x.need(2, 1, 1, true);
        x.make(2, 2, 2, true);
        x.amount(4, 1);
        x.last(2, 0, -1);
        x.wish(2, 1);
        check.same("seek(5)", x.seek(5), -1);
        check.same("seek(6)", x.seek(6), 6);
        row(x, 0, 2, 4, 5, 3, 1);
        done(x, 0, 1, 2);
        check.fraction(x, 0, 2, 0, 1);
        check.fraction(x, 1, 0, 4, 1);
        check.same("arrange()", x.arrange(), 0);
        check.so("the goal", x.holds(2));
    }

    /** Only action 3 does it without a fault, each of the others has one of its own. */
    private static void faultsArePassedBy() {
        check.part("promise 21, faults are passed by");
        PlanJudge x = actions(7);
        for (int a = 0; a < 7; a++) {
            x.make(a, 2, 0, true);
        }
        x.need(0, 0, 1, true);
        x.amount(100000, 1);
        x.number(3);
        x.change(1, 0, 3, 3);
        x.need(2, 1, 1, true);
        x.amount(2, 1);
        x.last(3, 0, -1);
        x.amount(1, 1);
        x.last(3, 1, -1);
        x.amount(10001, 1);
        x.last(4, 0, -1);
        x.amount(1, 997);
        x.last(5, 0, -1);
        x.wish(0, 1);
        check.same("seek(6)", x.seek(6), 2);
        done(x, 6);
        x.amount(3, 1);
        x.last(3, 1, -1);
        check.same("seek(6)", x.seek(6), 2);
        done(x, 3);
        check.fraction(x, 1, 0, 2, 1);
        x.fact(1, true);
        check.same("seek(6)", x.seek(6), 2);
        done(x, 0);
    }

    private static void unfitEpsilon() {
        check.part("promise 21, EPSILON above 10000");
        PlanJudge x = actions(1);
        x.amount(10001, 1);
        x.epsilon();
        check.same("seek(2)", x.seek(2), -1);
        x.amount(10000, 1);
        x.epsilon();
        check.same("seek(2)", x.seek(2), 0);
    }

    private static void twelveActions() {
        check.part("promise 21, twelve actions");
        PlanJudge x = actions(12);
        x.make(11, 2, 15, true);
        x.make(10, 0, 14, true);
        x.need(11, 2, 14, true);
        x.wish(15, 1);
        check.same("seek(6)", x.seek(6), 4);
        row(x, 0, 2, 1, 3);
        done(x, 10, 11);
        x.need(11, 0, 14, false);
        check.same("seek(6)", x.seek(6), 4);
        row(x, 0, 2, 1, 3);
        done(x, 11, 10);
        x.make(10, 2, 14, false);
        check.same("seek(6)", x.seek(6), 4);
        row(x, 0, 2, 1, 3);
    }

    private static void judgedBefore() {
        check.part("promises 21, 22 and 25: seeking is no judge() or arrange()");
        PlanJudge x = actions(1);
        x.make(0, 2, 0, true);
        x.wish(0, 1);
        check.same("seek(2)", x.seek(2), 2);
        check.so("the first state before any", !x.holds(0));
        x.need(0, 0, 3, true);
        check.same("judge()", x.judge(), 2);
        x.fact(3, true);
        check.same("seek(2)", x.seek(2), 2);
        check.same("count(0)", x.count(0), 2);
        check.same("count(1)", x.count(1), 0);
        check.so("the state of judge()", !x.holds(0) && !x.holds(3));
        check.same("judge()", x.judge(), 0);
        check.so("the state of judge()", x.holds(0) && x.holds(3));
    }

    /** All rows of six events of twelve actions are gone through. */
    private static void hardest() {
        check.part("promise 21, all rows");
        PlanJudge x = actions(12);
        for (int a = 0; a < 12; a++) {
            x.change(a, 0, a % 8, 1);
            x.compare(a, 1, a % 8, 3);
        }
        x.wish(0, 1);
        check.same("seek(6)", x.seek(6), -1);
        x.make(11, 2, 0, true);
        x.amount(2, 1);
        x.compare(11, 0, 7, 4);
        check.same("seek(6)", x.seek(6), -1);
        x.amount(1, 1);
        x.number(7);
        check.same("seek(6)", x.seek(6), 6);
        row(x, 0, 2, 4, 1, 3, 5);
        done(x, 7, 7, 11);
    }
}
