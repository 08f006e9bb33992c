/** Promises 9 to 14: actions, their needs, changes and durations. */
final class ActionTest {
    private static final Check check = new Check();
    private static final int[] NO_ACTION = {-1, 1, 12, Integer.MIN_VALUE, Integer.MAX_VALUE};

    private ActionTest() {
    }

    public static void main(String[] args) {
        action();
        need();
        needIsRefused();
        compare();
        compareIsRefused();
        eightNeeds();
        make();
        makeIsRefused();
        change();
        changeIsRefused();
        sixChanges();
        last();
        lastIsRefused();
        check.close();
    }

    private static PlanJudge oneAction() {
        return Check.objectWith(1, 0);
    }

    /** A step of action 0 from 0 to 2. */
    private static void stepOfTwo(PlanJudge x) {
        x.moment(0, 1);
        x.amount(2, 1);
        x.step(0);
    }

    private static void action() {
        check.part("promise 9");
        PlanJudge x = new PlanJudge();
        for (int a = 0; a < 12; a++) {
            check.same("action()", x.action(), a);
            check.same("count(2)", x.count(2), a + 1);
        }
        check.throwsState("action() the 13th time", x::action);
        check.throwsState("action() the 14th time", x::action);
        check.same("count(2)", x.count(2), 12);
        x.amount(1, 1);
        check.same("step(11)", x.step(11), 0);
        check.same("judge() with actions that are told nothing", x.judge(), 0);
    }

    private static void need() {
        check.part("promise 10");
        int[] dueAtTrue = {2, 5, 2};
        int[] duePoint = {0, 0, 1};
        for (int time = 0; time <= 2; time++) {
            for (int f = 0; f < 16; f += 5) {
                PlanJudge x = oneAction();
                x.need(0, time, f, true);
                stepOfTwo(x);
                check.fault("a fact needed true, time " + time, x, x.judge(), dueAtTrue[time], duePoint[time]);
                x.fact(f, true);
                check.fault("that is true", x, x.judge(), 0, -1);
                PlanJudge y = oneAction();
                y.need(0, time, f, false);
                stepOfTwo(y);
                check.fault("a fact needed false, time " + time, y, y.judge(), 0, -1);
                y.fact(f, true);
                check.fault("that is true", y, y.judge(), dueAtTrue[time], duePoint[time]);
                y.need(0, time, f, true);
                check.fault("needed both", y, y.judge(), dueAtTrue[time], duePoint[time]);
            }
        }
    }

    private static void needIsRefused() {
        check.part("promise 10, refused");
        PlanJudge x = oneAction();
        stepOfTwo(x);
        for (int a : NO_ACTION) {
            check.throwsIndex("need of action " + a, () -> x.need(a, 0, 0, true));
            check.throwsIndex("need of action " + a + ", time 3", () -> x.need(a, 3, 0, true));
        }
        for (int f : new int[] {-1, 16, Integer.MAX_VALUE}) {
            check.throwsIndex("need of fact " + f, () -> x.need(0, 0, f, true));
            check.throwsIndex("need of fact " + f + ", time -1", () -> x.need(0, -1, f, true));
        }
        for (int time : new int[] {-1, 3, Integer.MIN_VALUE, Integer.MAX_VALUE}) {
            check.throwsArgument("need at time " + time, () -> x.need(0, time, 0, true));
        }
        check.same("judge() without any need", x.judge(), 0);
    }

    private static void compare() {
        check.part("promise 11");
        boolean[][] due = {{true, false, false}, {true, true, false}, {false, true, false}, {false, true, true},
            {false, false, true}};
        int[] dueFault = {2, 5, 2};
        for (int time = 0; time <= 2; time++) {
            for (int how = 0; how <= 4; how++) {
                for (int value = -1; value <= 1; value++) {
                    PlanJudge x = oneAction();
                    x.amount(2, 3);
                    x.compare(0, time, 7, how);
                    x.amount(2 * 300 + value, 3 * 300);
                    x.number(7);
                    stepOfTwo(x);
                    boolean met = due[how][value + 1];
                    check.fault("time " + time + ", how " + how + ", " + value, x, x.judge(),
                            met ? 0 : dueFault[time], met ? -1 : time == 2 ? 1 : 0);
                }
            }
        }
    }

    private static void compareIsRefused() {
        check.part("promise 11, refused");
        PlanJudge x = oneAction();
        stepOfTwo(x);
        for (int a : NO_ACTION) {
            check.throwsIndex("compare of action " + a, () -> x.compare(a, 9, 0, 9));
        }
        for (int n : new int[] {-1, 8, Integer.MIN_VALUE}) {
            check.throwsIndex("compare of number " + n, () -> x.compare(0, 9, n, 9));
        }
        for (int wrong : new int[] {-1, 5, Integer.MAX_VALUE}) {
            check.throwsArgument("compare at time " + wrong, () -> x.compare(0, wrong, 0, 2));
            check.throwsArgument("compare, how " + wrong, () -> x.compare(0, 0, 0, wrong));
        }
        check.throwsArgument("compare at time 3", () -> x.compare(0, 3, 0, 2));
        check.same("judge() without any need", x.judge(), 0);
    }

    private static void eightNeeds() {
        check.part("promises 10 and 11, eight needs");
        PlanJudge x = oneAction();
        x.action();
        for (int i = 0; i < 4; i++) {
            x.need(0, i % 3, 0, false);
            x.compare(0, i % 3, 0, 2);
        }
        check.throwsState("a ninth need", () -> x.need(0, 0, 1, true));
        check.throwsState("a ninth comparison", () -> x.compare(0, 0, 1, 4));
        check.throwsIndex("need of fact 16", () -> x.need(0, 0, 16, true));
        check.throwsArgument("need at time 3", () -> x.need(0, 3, 0, true));
        check.throwsIndex("compare of number 8", () -> x.compare(0, 3, 8, 4));
        check.throwsArgument("compare, how 5", () -> x.compare(0, 0, 0, 5));
        stepOfTwo(x);
        check.same("judge() with the eight alone", x.judge(), 0);
        check.throwsNothing("a need of the other action", () -> x.need(1, 0, 1, true));
        PlanJudge y = oneAction();
        for (int f = 0; f < 8; f++) {
            y.need(0, 1, f, true);
            y.fact(f, true);
        }
        check.throwsState("a ninth need", () -> y.need(0, 2, 0, true));
        stepOfTwo(y);
        check.same("judge() with eight needs", y.judge(), 0);
        y.fact(7, false);
        check.same("judge() with the eighth unmet", y.judge(), 5);
        PlanJudge z = oneAction();
        for (int n = 0; n < 8; n++) {
            z.compare(0, 0, n, 2);
        }
        check.throwsState("a ninth comparison", () -> z.compare(0, 0, 0, 2));
        stepOfTwo(z);
        check.same("judge() with eight comparisons", z.judge(), 0);
        z.number(7);
        check.same("judge() with the eighth unmet", z.judge(), 2);
    }

    private static void make() {
        check.part("promise 12");
        PlanJudge x = oneAction();
        x.make(0, 0, 0, true);
        x.make(0, 2, 0, false);
        x.make(0, 2, 15, true);
        x.make(0, 0, 1, false);
        x.fact(1, true);
        stepOfTwo(x);
        check.same("judge()", x.judge(), 0);
        check.so("the end's changes", !x.holds(0) && x.holds(15) && !x.holds(1));
        x.need(0, 1, 0, true);
        x.need(0, 1, 15, false);
        x.need(0, 1, 1, false);
        check.same("judge(): the start's changes hold all over", x.judge(), 0);
        x.need(0, 1, 15, true);
        check.fault("judge(): the end's not yet", x, x.judge(), 5, 0);
    }

    private static void makeIsRefused() {
        check.part("promise 12, refused");
        PlanJudge x = oneAction();
        stepOfTwo(x);
        for (int a : NO_ACTION) {
            check.throwsIndex("make of action " + a, () -> x.make(a, 1, 0, true));
        }
        for (int f : new int[] {-1, 16, Integer.MIN_VALUE}) {
            check.throwsIndex("make of fact " + f, () -> x.make(0, 1, f, true));
        }
        for (int time : new int[] {-1, 1, 3, Integer.MAX_VALUE}) {
            check.throwsArgument("make at time " + time, () -> x.make(0, time, 0, true));
        }
        x.judge();
        check.so("nothing is made", !x.holds(0));
        x.make(0, 2, 0, true);
        check.throwsState("the same once more", () -> x.make(0, 2, 0, true));
        check.throwsState("the other way", () -> x.make(0, 2, 0, false));
        check.throwsArgument("all over", () -> x.make(0, 1, 0, false));
        x.judge();
        check.so("as it was", x.holds(0));
        check.throwsNothing("at the start", () -> x.make(0, 0, 0, false));
        check.throwsNothing("number 0 at the end", () -> x.change(0, 2, 0, 0));
    }

    private static void change() {
        check.part("promise 13");
        long[][] due = {{2, 3}, {7, 6}, {-1, 6}, {1, 3}};
        for (int way = 0; way <= 3; way++) {
            for (int time = 0; time <= 2; time += 2) {
                PlanJudge x = oneAction();
                x.amount(2, 3);
                x.change(0, time, 7, way);
                x.amount(1, 2);
                x.number(7);
                x.compare(0, 1, 7, 2);
                stepOfTwo(x);
                check.same("judge(), way " + way + ", time " + time, x.judge(), time == 0 ? 5 : 0);
                check.fraction(x, 2, 7, due[way][0], due[way][1]);
                check.fraction(x, 2, 6, 0, 1);
            }
        }
    }

    private static void changeIsRefused() {
        check.part("promise 13, refused");
        PlanJudge x = oneAction();
        stepOfTwo(x);
        for (int a : NO_ACTION) {
            check.throwsIndex("change of action " + a, () -> x.change(a, 1, 0, 9));
        }
        for (int n : new int[] {-1, 8, Integer.MAX_VALUE}) {
            check.throwsIndex("change of number " + n, () -> x.change(0, 1, n, 9));
        }
        for (int time : new int[] {-1, 1, 3, Integer.MIN_VALUE}) {
            check.throwsArgument("change at time " + time, () -> x.change(0, time, 0, 1));
        }
        for (int way : new int[] {-1, 4, Integer.MAX_VALUE}) {
            check.throwsArgument("change by way " + way, () -> x.change(0, 0, 0, way));
        }
        x.judge();
        check.fraction(x, 2, 0, 0, 1);
        x.change(0, 0, 0, 1);
        for (int way = 0; way <= 3; way++) {
            int w = way;
            check.throwsState("once more, by way " + way, () -> x.change(0, 0, 0, w));
        }
        check.throwsArgument("by way 4", () -> x.change(0, 0, 0, 4));
        x.judge();
        check.fraction(x, 2, 0, 2, 1);
        check.throwsNothing("at the end", () -> x.change(0, 2, 0, 1));
        check.throwsNothing("fact 0 at the start", () -> x.make(0, 0, 0, true));
        x.judge();
        check.fraction(x, 2, 0, 4, 1);
    }

    private static void sixChanges() {
        check.part("promises 12 and 13, six changes");
        PlanJudge x = oneAction();
        x.action();
        x.amount(3, 1);
        for (int i = 0; i < 3; i++) {
            x.make(0, i == 1 ? 0 : 2, i, true);
            x.change(0, i == 1 ? 0 : 2, i, 1);
        }
        check.throwsState("a seventh fact", () -> x.make(0, 0, 9, true));
        check.throwsState("a seventh number", () -> x.change(0, 0, 7, 1));
        check.throwsIndex("fact 16", () -> x.make(0, 0, 16, true));
        check.throwsArgument("way 4", () -> x.change(0, 0, 7, 4));
        stepOfTwo(x);
        check.same("judge()", x.judge(), 0);
        check.so("the six alone", x.holds(0) && x.holds(1) && x.holds(2) && !x.holds(9));
        check.fraction(x, 2, 2, 3, 1);
        check.fraction(x, 2, 7, 0, 1);
        check.throwsNothing("the other action's first", () -> x.make(1, 0, 9, true));
        PlanJudge y = oneAction();
        for (int n = 0; n < 6; n++) {
            y.amount(n + 1, 1);
            y.change(0, 2, n, 0);
        }
        check.throwsState("a seventh number", () -> y.change(0, 2, 6, 1));
        stepOfTwo(y);
        y.judge();
        for (int n = 0; n < 6; n++) {
            check.fraction(y, 2, n, n + 1, 1);
        }
    }

    private static void last() {
        check.part("promise 14");
        int[][] due = {{3, 0, 0}, {0, 0, 3}};
        for (int which = 0; which <= 1; which++) {
            for (int n = -1; n < 8; n += 4) {
                for (int value = -1; value <= 1; value++) {
                    PlanJudge x = oneAction();
                    x.amount(n == -1 ? 2 : 4, 1);
                    x.last(0, which, n);
                    x.amount(1, 2);
                    x.number(n == -1 ? 0 : n);
                    x.amount(2000 + value, 1000);
                    x.step(0);
                    check.fault("which " + which + ", n " + n + ", " + value, x, x.judge(), due[which][value + 1],
                            due[which][value + 1] == 0 ? -1 : 0);
                    x.last(0, which, -2);
                    check.same("none", x.judge(), 0);
                }
            }
        }
        PlanJudge x = oneAction();
        stepOfTwo(x);
        x.amount(3, 1);
        x.last(0, 0, -1);
        check.same("the least is 3", x.judge(), 3);
        x.amount(1, 1);
        x.last(0, 0, -1);
        check.same("the least is told anew", x.judge(), 0);
        x.last(0, 1, -1);
        check.same("the greatest is 1", x.judge(), 3);
        x.last(0, 1, 0);
        check.same("the greatest is 0", x.judge(), 3);
        x.amount(2, 1);
        x.number(0);
        check.same("the greatest is 2", x.judge(), 0);
        x.amount(-1, 1);
        x.number(0);
        check.same("the greatest is -1", x.judge(), 3);
    }

    private static void lastIsRefused() {
        check.part("promise 14, refused");
        PlanJudge x = oneAction();
        stepOfTwo(x);
        x.amount(3, 1);
        for (int a : NO_ACTION) {
            check.throwsIndex("last of action " + a, () -> x.last(a, 2, -1));
        }
        for (int n : new int[] {-3, 8, Integer.MIN_VALUE, Integer.MAX_VALUE}) {
            check.throwsIndex("last by number " + n, () -> x.last(0, 2, n));
            check.throwsIndex("last by number " + n, () -> x.last(0, 0, n));
        }
        for (int which : new int[] {-1, 2, Integer.MIN_VALUE}) {
            check.throwsArgument("last, which " + which, () -> x.last(0, which, -1));
            check.throwsArgument("last, which " + which, () -> x.last(0, which, -2));
        }
        check.same("judge() without bounds", x.judge(), 0);
    }
}
