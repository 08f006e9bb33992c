/** Promises 15, 16, 18, 19 and 22 to 24: steps, the row, and what is told of them. */
final class PlanTest {
    private static final Check check = new Check();

    private PlanTest() {
    }

    public static void main(String[] args) {
        step();
        stepIsRefused();
        clear();
        push();
        pushIsRefused();
        pop();
        count();
        done();
        at();
        check.close();
    }

    private static PlanJudge actions(int size) {
        return Check.objectWith(size, 1);
    }

    private static PlanJudge steps(int size) {
        PlanJudge x = actions(1);
        for (int s = 0; s < size; s++) {
            x.step(0);
        }
        return x;
    }

    private static void step() {
        check.part("promise 15");
        PlanJudge x = actions(3);
        for (int s = 0; s < 12; s++) {
            x.moment(s, 4);
            x.amount(s + 1, 6);
            check.same("step()", x.step(s % 3), s);
            check.same("count(3)", x.count(3), s + 1);
            check.same("count(4)", x.count(4), 0);
        }
        for (int s = 0; s < 12; s++) {
            check.same("done(" + s + ")", x.done(s), s % 3);
            check.same("above(0)", x.above(0, s) * 4, s * x.below(0, s));
            check.same("above(1)", x.above(1, s) * 6, (s + 1) * x.below(1, s));
        }
        check.fraction(x, 0, 6, 3, 2);
        check.fraction(x, 1, 8, 3, 2);
    }

    private static void stepIsRefused() {
        check.part("promise 15, refused");
        PlanJudge x = actions(2);
        for (int a : new int[] {-1, 2, 12, Integer.MIN_VALUE, Integer.MAX_VALUE}) {
            check.throwsIndex("step(" + a + ")", () -> x.step(a));
        }
        x.amount(0, 1);
        check.throwsArgument("step that lasts 0", () -> x.step(0));
        check.throwsIndex("step(2) that lasts 0", () -> x.step(2));
        x.amount(-1, 1000);
        check.throwsArgument("step that lasts -1/1000", () -> x.step(0));
        x.amount(1, 1000);
        x.moment(-1, 1000);
        check.throwsArgument("step that begins at -1/1000", () -> x.step(0));
        check.same("count(3)", x.count(3), 0);
        x.moment(0, 1);
        for (int s = 0; s < 12; s++) {
            x.step(1);
        }
        check.throwsState("step() the 13th time", () -> x.step(0));
        check.throwsIndex("step(2) the 13th time", () -> x.step(2));
        x.amount(0, 1);
        check.throwsArgument("step() that lasts 0, the 13th time", () -> x.step(0));
        check.same("count(3)", x.count(3), 12);
        check.same("done(11)", x.done(11), 1);
    }

    private static void clear() {
        check.part("promise 16");
        PlanJudge x = steps(2);
        x.wish(0, 1);
        x.amount(7, 2);
        x.number(0);
        check.same("judge()", x.judge(), 6);
        x.push(0);
        x.push(1);
        x.clear();
        check.same("steps", x.count(3), 0);
        check.same("points", x.count(4), 0);
        check.same("at(0)", x.at(0), -1);
        check.same("pop()", x.pop(), -1);
        check.throwsIndex("done(0)", () -> x.done(0));
        check.throwsIndex("above(0, 0)", () -> x.above(0, 0));
        check.throwsIndex("push(0)", () -> x.push(0));
        check.same("actions stay", x.count(2), 1);
        check.same("the fault stays", x.count(0), 6);
        check.fraction(x, 2, 0, 7, 2);
        check.same("step(0)", x.step(0), 0);
        check.throwsNothing("push(0)", () -> x.push(0));
        x.clear();
        x.clear();
        check.same("judge(): the goal stays", x.judge(), 6);
    }

    private static void push() {
        check.part("promise 18");
        PlanJudge x = steps(12);
        int[] points = new int[24];
        for (int s = 0; s < 12; s++) {
            points[s] = 2 * (11 - s);
            points[12 + s] = 2 * s + 1;
        }
        for (int k = 0; k < 24; k++) {
            x.push(points[k]);
            check.same("at(" + k + ")", x.at(k), points[k]);
            check.same("count(4)", x.count(4), k + 1);
        }
        for (int k = 0; k < 24; k++) {
            check.same("at(" + k + ") in the end", x.at(k), points[k]);
            int point = points[k];
            check.throwsState("push(" + point + ") again", () -> x.push(point));
        }
        check.throwsIndex("push(24)", () -> x.push(24));
    }

    private static void pushIsRefused() {
        check.part("promise 18, refused");
        PlanJudge x = steps(2);
        for (int point : new int[] {-1, 4, 5, 24, Integer.MIN_VALUE, Integer.MAX_VALUE}) {
            check.throwsIndex("push(" + point + ")", () -> x.push(point));
        }
        check.throwsState("push(1) ahead of its start", () -> x.push(1));
        x.push(2);
        check.throwsState("push(1) ahead of its start", () -> x.push(1));
        check.throwsState("push(2) again", () -> x.push(2));
        check.throwsNothing("push(3)", () -> x.push(3));
        check.throwsState("push(3) again", () -> x.push(3));
        check.same("count(4)", x.count(4), 2);
        x.step(0);
        check.throwsNothing("push(4) of a new step", () -> x.push(4));
    }

    private static void pop() {
        check.part("promise 19");
        PlanJudge x = steps(2);
        check.same("pop() of none", x.pop(), -1);
        x.push(2);
        x.push(0);
        x.push(3);
        check.same("pop()", x.pop(), 3);
        check.same("at(2)", x.at(2), -1);
        check.same("count(4)", x.count(4), 2);
        x.push(1);
        x.push(3);
        check.same("at(2)", x.at(2), 1);
        check.same("at(3)", x.at(3), 3);
        check.same("pop()", x.pop(), 3);
        check.same("pop()", x.pop(), 1);
        check.same("pop()", x.pop(), 0);
        check.throwsState("push(1) without its start", () -> x.push(1));
        check.same("pop()", x.pop(), 2);
        check.same("pop()", x.pop(), -1);
        check.same("steps stay", x.count(3), 2);
    }

    private static void count() {
        check.part("promise 22");
        PlanJudge x = actions(2);
        x.need(1, 0, 3, true);
        x.step(0);
        x.step(1);
        x.push(2);
        int[] due = {0, -1, 2, 2, 1};
        for (int what = 0; what <= 4; what++) {
            check.same("count(" + what + ") at first", x.count(what), due[what]);
        }
        x.judge();
        check.same("count(0) of judge()", x.count(0), 2);
        check.same("count(1) of judge()", x.count(1), 2);
        check.throwsState("arrange() without all points", x::arrange);
        check.same("count(0) stays", x.count(0), 2);
        check.same("count(1) stays", x.count(1), 2);
        x.fact(3, true);
        x.push(0);
        x.push(1);
        x.push(3);
        check.same("arrange()", x.arrange(), 0);
        check.same("count(0) of arrange()", x.count(0), 0);
        check.same("count(1) of arrange()", x.count(1), -1);
        x.wish(0, 1);
        x.arrange();
        check.same("count(0) of arrange()", x.count(0), 6);
        check.same("count(1) of arrange()", x.count(1), -1);
        check.same("seek(2)", x.seek(2), -1);
        x.wish(0, 0);
        check.same("seek(2)", x.seek(2), 0);
        check.same("count(0) is not seek()'s", x.count(0), 6);
        for (int what : new int[] {-1, 5, Integer.MIN_VALUE, Integer.MAX_VALUE}) {
            check.throwsIndex("count(" + what + ")", () -> x.count(what));
        }
    }

    private static void done() {
        check.part("promise 23");
        PlanJudge x = actions(12);
        for (int s = 0; s < 12; s++) {
            for (int none : new int[] {-1, s, 12, Integer.MIN_VALUE, Integer.MAX_VALUE}) {
                check.throwsIndex("done(" + none + ")", () -> x.done(none));
            }
            x.step(11 - s);
            check.same("done(" + s + ")", x.done(s), 11 - s);
        }
    }

    private static void at() {
        check.part("promise 24");
        PlanJudge x = steps(3);
        x.push(4);
        x.push(0);
        x.push(5);
        check.same("at(0)", x.at(0), 4);
        check.same("at(1)", x.at(1), 0);
        check.same("at(2)", x.at(2), 5);
        for (int k : new int[] {-1, 3, 23, 24, Integer.MIN_VALUE, Integer.MAX_VALUE}) {
            check.same("at(" + k + ")", x.at(k), -1);
        }
    }
}
