/** Promise 20: arranging a row, its faults, and the earliest times. */
final class ArrangeTest {
    private static final Check check = new Check();

    private ArrangeTest() {
    }

    public static void main(String[] args) {
        allPointsMustBeThere();
        noSteps();
        needs();
        tooLong();
        allOver();
        goal();
        earliestTimes();
        epsilonBetween();
        ownInterference();
        boundsByTheStateAhead();
        greatestDelaysTheStart();
        leastIsEpsilon();
        noTimes();
        boundsUnfit();
        bigUnfitBounds();
        twelveSteps();
        planStaysWithAFault();
        check.close();
    }

    private static PlanJudge actions(int size) {
        return Check.objectWith(size, 1);
    }

    /** Steps of these actions, from 77 on for 66. */
    private static void steps(PlanJudge x, int... actions) {
        x.clear();
        x.moment(77, 1);
        x.amount(66, 1);
        for (int a : actions) {
            x.step(a);
        }
    }

    private static void row(PlanJudge x, int... points) {
        while (x.pop() >= 0) {
            continue;
        }
        for (int point : points) {
            x.push(point);
        }
    }

    private static void bound(PlanJudge x, int a, int which, int p, int q) {
        x.amount(p, q);
        x.last(a, which, -1);
    }

    private static void allPointsMustBeThere() {
        check.part("promise 20, refused");
        PlanJudge x = actions(1);
        steps(x, 0, 0);
        check.throwsState("arrange() of no points", x::arrange);
        row(x, 0, 1, 2);
        check.throwsState("arrange() with a point missing", x::arrange);
        check.same("count(4)", x.count(4), 3);
        check.fraction(x, 0, 0, 77, 1);
        x.push(3);
        check.fault("arrange()", x, x.arrange(), 0, -1);
        x.amount(1, 1);
        x.step(0);
        check.throwsState("arrange() with a new step", x::arrange);
    }

    private static void noSteps() {
        check.part("promise 20, no steps");
        PlanJudge x = actions(0);
        check.fault("arrange()", x, x.arrange(), 0, -1);
        x.amount(10001, 1);
        x.epsilon();
        check.fault("EPSILON above 10000", x, x.arrange(), 8, -1);
        x.wish(0, 1);
        check.fault("the goal goes first", x, x.arrange(), 6, -1);
    }

    private static void needs() {
        check.part("promise 20, fault 2");
        PlanJudge x = actions(2);
        x.make(0, 0, 0, true);
        x.make(0, 2, 0, false);
        x.need(1, 0, 0, true);
        x.make(1, 0, 1, true);
        steps(x, 0, 1);
        row(x, 0, 2, 1, 3);
        check.fault("met in the row", x, x.arrange(), 0, -1);
        row(x, 2, 0, 1, 3);
        check.fault("not yet", x, x.arrange(), 2, 2);
        check.so("the state before", !x.holds(0) && !x.holds(1));
        row(x, 0, 1, 2, 3);
        check.fault("not any more", x, x.arrange(), 2, 2);
        x.need(1, 2, 0, true);
        row(x, 0, 2, 1, 3);
        check.fault("not at the end", x, x.arrange(), 2, 3);
        check.so("the state before", !x.holds(0) && x.holds(1));
        row(x, 0, 2, 3, 1);
        check.fault("at the end", x, x.arrange(), 0, -1);
    }

    private static void tooLong() {
        check.part("promise 20, fault 4");
        PlanJudge x = actions(2);
        x.amount(100000, 1);
        x.number(0);
        x.change(0, 0, 0, 3);
        x.make(0, 0, 3, true);
        x.amount(1, 100);
        x.change(1, 2, 0, 3);
        steps(x, 1, 0);
        row(x, 2, 0, 1, 3);
        check.fault("too long", x, x.arrange(), 4, 2);
        check.fraction(x, 2, 0, 100000, 1);
        check.so("before the changes", !x.holds(3));
        row(x, 0, 1, 2, 3);
        check.fault("not too long", x, x.arrange(), 0, -1);
        check.fraction(x, 2, 0, 100000000L, 1);
        check.so("behind the changes", x.holds(3));
    }

    private static void allOver() {
        check.part("promise 20, fault 5");
        PlanJudge x = actions(3);
        x.need(0, 1, 0, true);
        x.make(1, 0, 0, true);
        x.make(2, 0, 0, false);
        steps(x, 2, 0, 1, 0);
        row(x, 4, 6, 2, 7, 3, 0, 1, 5);
        check.fault("so all over", x, x.arrange(), 0, -1);
        row(x, 4, 6, 2, 0, 1, 7, 3, 5);
        check.fault("the start of the lowest step", x, x.arrange(), 5, 2);
        check.so("the state behind", !x.holds(0));
        row(x, 4, 6, 2, 3, 0, 1, 7, 5);
        check.fault("the one that hasn't ended", x, x.arrange(), 5, 6);
        row(x, 6, 4, 2, 7, 3, 0, 1, 5);
        check.fault("as soon as it begins", x, x.arrange(), 5, 6);
        x.make(0, 0, 0, true);
        x.make(0, 2, 0, false);
        row(x, 6, 7, 2, 3, 0, 1, 4, 5);
        check.fault("its own changes", x, x.arrange(), 0, -1);
        row(x, 6, 2, 7, 3, 0, 1, 4, 5);
        check.fault("broken by the other one's end", x, x.arrange(), 5, 2);
    }

    private static void goal() {
        check.part("promise 20, fault 6");
        PlanJudge x = actions(1);
        x.make(0, 2, 4, true);
        x.wish(4, 0);
        steps(x, 0);
        row(x, 0, 1);
        check.fault("the goal isn't so", x, x.arrange(), 6, -1);
        check.so("the state in the end", x.holds(4));
        bound(x, 0, 0, 2, 1);
        bound(x, 0, 1, 1, 1);
        check.fault("ahead of 7", x, x.arrange(), 6, -1);
        bound(x, 0, 0, 20000, 1);
        check.fault("ahead of 8", x, x.arrange(), 6, -1);
        x.wish(4, 1);
        check.fault("8 ahead of 7", x, x.arrange(), 8, -1);
    }

    private static void earliestTimes() {
        check.part("promise 20, times");
        PlanJudge x = actions(2);
        bound(x, 0, 0, 7, 2);
        bound(x, 1, 0, 4, 3);
        steps(x, 0, 1);
        row(x, 0, 1, 2, 3);
        check.same("arrange()", x.arrange(), 0);
        check.fraction(x, 0, 0, 0, 1);
        check.fraction(x, 1, 0, 7, 2);
        check.fraction(x, 0, 1, 7, 2);
        check.fraction(x, 1, 1, 4, 3);
        row(x, 2, 0, 3, 1);
        check.same("arrange()", x.arrange(), 0);
        check.fraction(x, 0, 0, 0, 1);
        check.fraction(x, 0, 1, 0, 1);
        check.fraction(x, 1, 1, 4, 3);
        row(x, 2, 0, 1, 3);
        check.same("arrange()", x.arrange(), 0);
        check.fraction(x, 1, 1, 7, 2);
        check.same("the row stays", x.at(1), 0);
        check.same("judge()", x.judge(), 0);
    }

    private static void epsilonBetween() {
        check.part("promise 20, EPSILON");
        PlanJudge x = actions(3);
        x.make(0, 0, 0, true);
        x.make(1, 0, 0, false);
        x.amount(3, 7);
        x.epsilon();
        steps(x, 0, 2, 1);
        row(x, 0, 2, 4, 1, 3, 5);
        check.same("arrange()", x.arrange(), 0);
        check.fraction(x, 0, 0, 0, 1);
        check.fraction(x, 0, 1, 0, 1);
        check.fraction(x, 0, 2, 3, 7);
        check.fraction(x, 1, 0, 3, 7);
        check.fraction(x, 1, 1, 3, 7);
        check.fraction(x, 1, 2, 3, 7);
        check.same("judge()", x.judge(), 0);
        x.make(2, 0, 0, false);
        check.same("arrange()", x.arrange(), 0);
        check.fraction(x, 0, 1, 3, 7);
        check.fraction(x, 0, 2, 3, 7);
        x.need(2, 0, 0, true);
        check.same("arrange()", x.arrange(), 0);
        check.fraction(x, 0, 1, 3, 7);
        check.fraction(x, 0, 2, 6, 7);
    }

    private static void ownInterference() {
        check.part("promise 20, a step's start and end");
        PlanJudge x = actions(1);
        x.make(0, 0, 0, true);
        x.make(0, 2, 0, false);
        bound(x, 0, 1, 1, 1000);
        steps(x, 0);
        row(x, 0, 1);
        check.same("arrange()", x.arrange(), 0);
        check.fraction(x, 1, 0, 1, 1000);
    }

    private static void boundsByTheStateAhead() {
        check.part("promise 20, bounds");
        PlanJudge x = actions(2);
        x.amount(5, 2);
        x.last(0, 0, 3);
        x.last(0, 1, 3);
        x.amount(2, 1);
        x.number(3);
        x.change(0, 0, 3, 1);
        x.amount(3, 1);
        x.change(0, 2, 3, 3);
        steps(x, 0, 0);
        row(x, 2, 3, 0, 1);
        check.same("arrange()", x.arrange(), 0);
        check.fraction(x, 0, 1, 0, 1);
        check.fraction(x, 1, 1, 5, 1);
        check.fraction(x, 0, 0, 5001, 1000);
        check.fraction(x, 1, 0, 30, 1);
        check.fraction(x, 2, 3, 42, 1);
        check.same("judge()", x.judge(), 0);
    }

    private static void greatestDelaysTheStart() {
        check.part("promise 20, the greatest duration");
        PlanJudge x = actions(2);
        bound(x, 0, 0, 10, 1);
        bound(x, 1, 1, 3, 2);
        steps(x, 1, 0);
        row(x, 0, 2, 3, 1);
        check.fault("too long within", x, x.arrange(), 7, -1);
        row(x, 2, 0, 3, 1);
        check.same("arrange()", x.arrange(), 0);
        check.fraction(x, 0, 0, 17, 2);
        check.fraction(x, 1, 0, 3, 2);
        check.fraction(x, 0, 1, 0, 1);
        check.fraction(x, 1, 1, 10, 1);
        PlanJudge y = actions(3);
        bound(y, 0, 0, 10, 1);
        bound(y, 1, 1, 4, 1);
        bound(y, 2, 1, 4, 1);
        steps(y, 0, 1, 2);
        row(y, 4, 2, 5, 0, 3, 1);
        check.same("arrange()", y.arrange(), 0);
        row(y, 0, 4, 2, 5, 1, 3);
        check.same("arrange(): a start of its own is delayed first", y.arrange(), 0);
        check.fraction(y, 0, 1, 6, 1);
        check.fraction(y, 0, 2, 2, 1);
        check.fraction(y, 1, 2, 4, 1);
        check.fraction(y, 1, 1, 4, 1);
        check.same("judge()", y.judge(), 0);
    }

    private static void leastIsEpsilon() {
        check.part("promise 20, EPSILON at least");
        PlanJudge x = actions(1);
        steps(x, 0);
        row(x, 0, 1);
        check.same("arrange() without bounds", x.arrange(), 0);
        check.fraction(x, 1, 0, 1, 1000);
        bound(x, 0, 0, -5, 1);
        check.same("arrange() with a least one below 0", x.arrange(), 0);
        check.fraction(x, 1, 0, 1, 1000);
        x.amount(1, 2);
        x.epsilon();
        bound(x, 0, 0, 1, 997);
        bound(x, 0, 1, 1, 2);
        check.same("arrange() with a least one below EPSILON", x.arrange(), 0);
        check.fraction(x, 1, 0, 1, 2);
        bound(x, 0, 0, 3, 5);
        bound(x, 0, 1, 3, 5);
        check.same("arrange() with a least one above EPSILON", x.arrange(), 0);
        check.fraction(x, 1, 0, 3, 5);
    }

    private static void noTimes() {
        check.part("promise 20, fault 7");
        PlanJudge x = actions(2);
        steps(x, 0);
        row(x, 0, 1);
        bound(x, 0, 0, 2, 1);
        bound(x, 0, 1, 2, 1);
        check.fault("the bounds meet", x, x.arrange(), 0, -1);
        bound(x, 0, 1, 1999, 1000);
        check.fault("the greatest one is less", x, x.arrange(), 7, -1);
        x.last(0, 0, -2);
        bound(x, 0, 1, 0, 1);
        check.fault("the greatest one is 0", x, x.arrange(), 7, -1);
        bound(x, 0, 1, -3, 1);
        check.fault("the greatest one is below 0", x, x.arrange(), 7, -1);
        PlanJudge y = actions(2);
        y.make(0, 0, 0, true);
        y.make(1, 0, 0, false);
        bound(y, 0, 1, 2, 1000);
        bound(y, 1, 0, 2, 1000);
        steps(y, 0, 1);
        row(y, 0, 2, 1, 3);
        check.fault("overlapping", y, y.arrange(), 0, -1);
        row(y, 0, 2, 3, 1);
        check.fault("within, after EPSILON", y, y.arrange(), 7, -1);
        check.so("the state in the end", !y.holds(0));
        bound(y, 0, 1, 3, 1000);
        check.fault("within, with room", y, y.arrange(), 0, -1);
    }

    private static void boundsUnfit() {
        check.part("promise 20, fault 8");
        PlanJudge x = actions(2);
        steps(x, 0);
        row(x, 0, 1);
        bound(x, 0, 0, 10000, 1);
        check.fault("10000", x, x.arrange(), 0, -1);
        bound(x, 0, 0, 10001, 1);
        check.fault("10001", x, x.arrange(), 8, -1);
        x.last(0, 0, -2);
        bound(x, 0, 1, 10001, 1);
        check.fault("a greatest one of 10001", x, x.arrange(), 8, -1);
        bound(x, 0, 1, 10000, 1);
        check.fault("a greatest one of 10000", x, x.arrange(), 0, -1);
        bound(x, 0, 0, 1, 101);
        check.fault("denominators 1000 and 101", x, x.arrange(), 8, -1);
        bound(x, 0, 0, 1, 99);
        check.fault("denominators 1000 and 99", x, x.arrange(), 0, -1);
        bound(x, 0, 1, 9, 101);
        check.fault("denominators 1000, 99 and 101", x, x.arrange(), 8, -1);
        bound(x, 0, 1, -7, 101);
        check.fault("8 ahead of 7", x, x.arrange(), 8, -1);
        x.last(0, 1, -2);
        bound(x, 1, 0, 1, 101);
        check.fault("an action that isn't done", x, x.arrange(), 0, -1);
        bound(x, 0, 0, 1, 100);
        x.amount(1, 1000);
        x.epsilon();
        check.fault("denominators 1000 and 100", x, x.arrange(), 0, -1);
        steps(x, 0, 1);
        row(x, 0, 1, 2, 3);
        check.fault("denominators 1000, 100 and 101", x, x.arrange(), 8, -1);
        bound(x, 1, 0, 1, 625);
        bound(x, 0, 0, 1, 32);
        check.fault("denominators 1000, 32 and 625", x, x.arrange(), 0, -1);
        bound(x, 0, 0, 1, 160);
        check.fault("denominators 1000, 160 and 625", x, x.arrange(), 0, -1);
        bound(x, 0, 0, 1, 64);
        check.fault("denominators 1000, 64 and 625", x, x.arrange(), 0, -1);
        bound(x, 0, 0, 1, 96);
        check.fault("denominators 1000, 96 and 625", x, x.arrange(), 0, -1);
        bound(x, 0, 0, 1, 352);
        check.fault("denominators 1000, 352 and 625", x, x.arrange(), 8, -1);
        x.amount(1, 625);
        x.number(2);
        x.amount(4, 5);
        x.last(1, 0, 2);
        x.last(1, 1, -2);
        bound(x, 0, 0, 1, 32);
        check.fault("the least common multiple 100000", x, x.arrange(), 0, -1);
        x.amount(1, 100);
        x.epsilon();
        x.amount(1, 11);
        x.number(2);
        x.last(0, 0, -2);
        x.amount(1, 91);
        x.last(1, 1, 2);
        x.last(1, 0, -2);
        check.fault("the least common multiple 100100", x, x.arrange(), 8, -1);
        x.last(1, 1, -2);
        x.amount(10000, 1);
        x.epsilon();
        check.fault("EPSILON 10000", x, x.arrange(), 0, -1);
        x.amount(20001, 2);
        x.epsilon();
        check.fault("EPSILON above 10000", x, x.arrange(), 8, -1);
    }

    /** A bound of about 10^14 / 10^12, and one far below 0. */
    private static void bigUnfitBounds() {
        check.part("promise 20, fault 8, long fractions");
        PlanJudge x = actions(5);
        int[][] factors = {{99991, 997}, {9973, 991}, {1, 983}};
        x.number(0);
        for (int a = 0; a < 3; a++) {
            x.amount(factors[a][0], factors[a][1]);
            x.change(a, 0, 0, 3);
        }
        x.amount(99989, 977);
        x.last(3, 1, 0);
        steps(x, 0, 1, 2, 3);
        row(x, 0, 1, 2, 3, 4, 5, 6, 7);
        check.fault("a denominator of about 10^12", x, x.arrange(), 8, -1);
        x.amount(-99989, 977);
        x.last(3, 1, 0);
        check.fault("the same below 0", x, x.arrange(), 8, -1);
        x.last(3, 1, -2);
        x.last(3, 0, 0);
        check.fault("a least one below EPSILON is EPSILON", x, x.arrange(), 0, -1);
        PlanJudge y = actions(3);
        y.amount(-100000, 1);
        y.number(0);
        y.amount(10000, 1);
        y.change(0, 0, 0, 3);
        y.amount(100000, 1);
        y.last(1, 1, 0);
        steps(y, 0, 1);
        row(y, 0, 1, 2, 3);
        check.fault("a greatest one of -10^14", y, y.arrange(), 7, -1);
        y.amount(100000, 1);
        y.number(0);
        check.fault("a greatest one of 10^14", y, y.arrange(), 8, -1);
    }

    private static void twelveSteps() {
        check.part("promise 20, twelve steps");
        PlanJudge x = actions(1);
        x.make(0, 0, 0, true);
        x.need(0, 2, 0, true);
        bound(x, 0, 0, 10000, 1);
        steps(x, 0, 0, 0, 0, 0, 0, 0, 0, 0, 0, 0, 0);
        for (int s = 11; s >= 0; s--) {
            x.push(2 * s);
            x.push(2 * s + 1);
        }
        check.fault("arrange()", x, x.arrange(), 0, -1);
        for (int s = 0; s < 12; s++) {
            long begin = (11 - s) * 10000001L;
            check.same("above(0, " + s + ")", x.above(0, s) * 1000, begin * x.below(0, s));
            check.fraction(x, 1, s, 10000, 1);
        }
        check.same("judge()", x.judge(), 0);
        row(x);
        for (int s = 0; s < 12; s++) {
            x.push(2 * s);
        }
        for (int s = 11; s >= 0; s--) {
            x.push(2 * s + 1);
        }
        check.fault("arrange() of steps within steps", x, x.arrange(), 0, -1);
        check.fraction(x, 0, 11, 0, 1);
        check.fraction(x, 1, 0, 10000, 1);
    }

    private static void planStaysWithAFault() {
        check.part("promise 20, nothing is arranged with a fault");
        PlanJudge x = actions(1);
        steps(x, 0);
        row(x, 0, 1);
        x.wish(0, 1);
        check.same("arrange()", x.arrange(), 6);
        bound(x, 0, 0, 10001, 1);
        x.wish(0, 0);
        check.same("arrange()", x.arrange(), 8);
        bound(x, 0, 0, 1, 1);
        bound(x, 0, 1, 1, 2);
        check.same("arrange()", x.arrange(), 7);
        x.need(0, 0, 0, true);
        check.same("arrange()", x.arrange(), 2);
        check.fraction(x, 0, 0, 77, 1);
        check.fraction(x, 1, 0, 66, 1);
    }
}
