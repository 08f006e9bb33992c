/** The edges of promise 21: how many events there may be, and which row is the first one. */
final class SeekEdgeTest {
    private static final Check check = new Check();

    private SeekEdgeTest() {
    }

    public static void main(String[] args) {
        atMostSoManyEvents();
        fewestEvents();
        eventByEvent();
        soughtInOrderOfBeginning();
        soughtAndArranged();
        planAndRowStay();
        check.close();
    }

    private static void atMostSoManyEvents() {
        check.part("promise 21: at most so many events (0 .. 6): how many it has; -1 if there is none");
        for (int steps = 0; steps <= 4; steps++) {
            for (int most = 0; most <= 6; most++) {
                PlanJudge x = Tell.actions(1);
                Tell.change(x, 0, 2, 0, 1, 1, 1);
                x.amount(steps, 1);
                x.want(0, 3);
                check.same("seek(" + most + ") of " + steps + " steps", x.seek(most), 2 * steps <= most ? 2 * steps : -1);
                check.same("steps", x.count(3), 2 * steps <= most ? steps : 0);
                check.same("points", x.count(4), 2 * steps <= most ? 2 * steps : 0);
            }
        }
        PlanJudge none = new PlanJudge();
        check.same("seek(0) without actions", none.seek(0), 0);
        none.wish(15, 1);
        check.same("seek(0) without actions", none.seek(0), -1);
        check.same("seek(6) without actions", none.seek(6), -1);
    }

    private static void fewestEvents() {
        check.part("promise 21: that with the fewest events");
        PlanJudge x = Tell.actions(12);
        x.make(0, 2, 0, true);
        x.need(1, 0, 0, true);
        x.make(1, 2, 1, true);
        x.make(11, 2, 1, true);
        x.wish(1, 1);
        check.same("seek(6)", x.seek(6), 2);
        check.same("done(0)", x.done(0), 11);
        x.need(11, 0, 2, true);
        check.same("seek(6)", x.seek(6), 4);
        check.same("done(0)", x.done(0), 0);
        check.same("done(1)", x.done(1), 1);
        x.fact(1, true);
        check.same("seek(6)", x.seek(6), 0);
        check.same("steps", x.count(3), 0);
    }

    private static void rowIs(PlanJudge x, int... points) {
        check.same("points", x.count(4), points.length);
        for (int k = 0; k < points.length; k++) {
            check.same("at(" + k + ")", x.at(k), points[k]);
        }
    }

    private static void eventByEvent() {
        check.part("promise 21: of these the first one, event by event");
        for (int first = 0; first < 12; first++) {
            PlanJudge x = Tell.actions(12);
            for (int a = first; a < 12; a++) {
                x.make(a, a % 2 == 0 ? 0 : 2, 0, true);
            }
            x.wish(0, 1);
            check.same("seek(2)", x.seek(2), 2);
            check.same("done(0)", x.done(0), first);
        }
        PlanJudge x = Tell.actions(2);
        x.make(0, 0, 0, true);
        x.make(1, 0, 1, true);
        x.wish(0, 1);
        x.wish(1, 1);
        check.same("seek(6)", x.seek(6), 4);
        rowIs(x, 0, 2, 1, 3);
        x.need(0, 2, 2, true);
        x.make(1, 2, 2, true);
        check.same("seek(6): step 0 can't end first", x.seek(6), 4);
        rowIs(x, 0, 2, 3, 1);
        check.same("done(0)", x.done(0), 0);
        x.need(1, 0, 0, false);
        check.same("seek(6): action 1 must begin first", x.seek(6), 4);
        rowIs(x, 0, 2, 1, 3);
        check.same("done(0)", x.done(0), 1);
        x.need(0, 0, 2, true);
        check.same("seek(6): and end before the other one begins", x.seek(6), 4);
        rowIs(x, 0, 1, 2, 3);
        check.same("done(1)", x.done(1), 0);
    }

    private static void soughtInOrderOfBeginning() {
        check.part("promise 21: steps have numbers in the order in which they begin; each step that begins ending, too");
        PlanJudge x = Tell.actions(3);
        x.make(2, 0, 0, true);
        x.need(1, 0, 0, true);
        x.make(1, 0, 1, true);
        x.need(0, 0, 1, true);
        x.make(0, 0, 2, true);
        x.wish(2, 1);
        check.same("seek(5)", x.seek(5), -1);
        check.same("seek(6)", x.seek(6), 6);
        rowIs(x, 0, 2, 4, 1, 3, 5);
        for (int s = 0; s < 3; s++) {
            check.same("done(" + s + ")", x.done(s), 2 - s);
        }
        x.need(0, 2, 5, true);
        check.same("seek(6) with a step that can't end", x.seek(6), -1);
    }

    private static void soughtAndArranged() {
        check.part("promise 21: it becomes the row, and its steps, arranged, the plan");
        PlanJudge x = Tell.actions(2);
        Tell.bound(x, 0, 0, 7, 2);
        x.make(0, 2, 0, true);
        x.need(1, 0, 0, true);
        x.make(1, 0, 1, true);
        Tell.bound(x, 1, 0, 1, 6);
        x.wish(1, 1);
        for (int s = 0; s < 12; s++) {
            Tell.step(x, 1, s, 50);
            x.push(2 * s);
            x.push(2 * s + 1);
        }
        check.same("seek(6)", x.seek(6), 4);
        check.same("steps", x.count(3), 2);
        rowIs(x, 0, 1, 2, 3);
        check.same("done(0)", x.done(0), 0);
        check.fraction(x, 0, 0, 0, 1);
        check.fraction(x, 1, 0, 7, 2);
        check.fraction(x, 0, 1, 3501, 1000);
        check.fraction(x, 1, 1, 1, 6);
        check.same("judge()", x.judge(), 0);
        check.same("arrange()", x.arrange(), 0);
        check.same("Tell.step(0) behind them", x.step(0), 2);
    }

    private static void planAndRowStay() {
        check.part("promise 21: -1 if there is none (plan and row stay)");
        PlanJudge x = Tell.actions(2);
        x.wish(0, 1);
        Tell.step(x, 1, 8, 3);
        Tell.step(x, 0, 9, 4);
        x.push(2);
        x.push(0);
        for (int most = 0; most <= 6; most++) {
            check.same("seek(" + most + ")", x.seek(most), -1);
            rowIs(x, 2, 0);
            check.same("steps", x.count(3), 2);
            check.same("done(0)", x.done(0), 1);
            check.fraction(x, 0, 0, 8, 1);
            check.fraction(x, 1, 0, 3, 1);
            check.fraction(x, 0, 1, 9, 1);
            check.fraction(x, 1, 1, 4, 1);
        }
        check.throwsState("push(2)", () -> x.push(2));
        check.throwsNothing("push(3)", () -> x.push(3));
    }
}
