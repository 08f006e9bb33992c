/** Promises 17 and 25 to 27: judging, and the state to which it comes. */
final class JudgeTest {
    private static final Check check = new Check();

    private JudgeTest() {
    }

    public static void main(String[] args) {
        emptyPlan();
        interferenceOfFacts();
        interferenceOfNumbers();
        interferenceOfDurations();
        interferenceAmongMany();
        nearnessOfPoints();
        lowestInterferingPoint();
        needs();
        durations();
        hugeDurations();
        tooLong();
        tooLongAtOneTime();
        allOver();
        goal();
        orderOfFaults();
        stateReached();
        askedWrongly();
        check.close();
    }

    private static PlanJudge actions(int size) {
        return Check.objectWith(size, 0);
    }

    /** From p / q on for up / down. */
    private static void step(PlanJudge x, int a, int[] begin, int[] lasts) {
        x.moment(begin[0], begin[1]);
        x.amount(lasts[0], lasts[1]);
        x.step(a);
    }

    private static void step(PlanJudge x, int a, int begin, int lasts) {
        step(x, a, new int[] {begin, 1}, new int[] {lasts, 1});
    }

    private static void change(PlanJudge x, int a, int time, int n, int way, int amount) {
        x.amount(amount, 1);
        x.change(a, time, n, way);
    }

    private static void emptyPlan() {
        check.part("promise 17, no steps");
        PlanJudge x = new PlanJudge();
        check.fault("judge()", x, x.judge(), 0, -1);
        x.wish(3, 1);
        check.fault("judge()", x, x.judge(), 6, -1);
    }

    /** Both begin at 0: only fault 1 or none can be found, as the needs are met. */
    private static void bothStart(String what, PlanJudge x, boolean interfere) {
        step(x, 0, 0, 1);
        step(x, 1, 0, 2);
        check.fault(what, x, x.judge(), interfere ? 1 : 0, interfere ? 0 : -1);
        x.clear();
        step(x, 1, 0, 2);
        step(x, 0, 0, 1);
        check.fault(what + ", the other one first", x, x.judge(), interfere ? 1 : 0, interfere ? 0 : -1);
    }

    private static void interferenceOfFacts() {
        check.part("promise 17, fault 1, facts");
        for (int f = 0; f < 16; f += 15) {
            for (int values = 0; values < 4; values++) {
                boolean one = (values & 1) != 0;
                boolean other = (values & 2) != 0;
                PlanJudge x = actions(2);
                x.make(0, 0, f, one);
                x.make(1, 0, f, other);
                bothStart("make " + one + " and make " + other, x, one != other);
                PlanJudge y = actions(2);
                y.fact(f, other);
                y.make(0, 0, f, one);
                y.need(1, 0, f, other);
                bothStart("make " + one + " and need " + other, y, true);
            }
        }
        for (int time = 1; time <= 2; time++) {
            PlanJudge x = actions(2);
            x.make(0, 0, 0, true);
            x.need(1, time, 0, true);
            bothStart("a need of another time, " + time, x, false);
        }
        PlanJudge x = actions(2);
        x.need(0, 0, 0, false);
        x.need(1, 0, 0, false);
        bothStart("need and need", x, false);
        PlanJudge y = actions(2);
        y.make(0, 0, 0, true);
        y.make(1, 0, 1, false);
        y.change(1, 0, 0, 0);
        bothStart("another fact, and the number of its number", y, false);
        PlanJudge z = actions(2);
        z.make(0, 0, 0, true);
        z.make(1, 2, 0, false);
        bothStart("a start, and the end of a later time", z, false);
    }

    private static void interferenceOfNumbers() {
        check.part("promise 17, fault 1, numbers");
        for (int one = 0; one <= 3; one++) {
            for (int other = 0; other <= 3; other++) {
                PlanJudge x = actions(2);
                change(x, 0, 0, 7, one, 1);
                change(x, 1, 0, 7, other, 1);
                boolean stepwise = (one == 1 || one == 2) && (other == 1 || other == 2);
                bothStart("ways " + one + " and " + other, x, !stepwise);
                PlanJudge y = actions(2);
                change(y, 0, 0, 7, one, 1);
                change(y, 1, 0, 6, other, 1);
                bothStart("ways " + one + " and " + other + " of another number", y, false);
            }
            PlanJudge z = actions(2);
            z.compare(1, 0, 0, 2);
            change(z, 0, 0, 0, one, 1);
            bothStart("way " + one + " and a comparison", z, true);
            PlanJudge w = actions(2);
            w.compare(1, 2, 0, 2);
            change(w, 0, 0, 0, one, 0);
            bothStart("way " + one + " and a comparison of another time", w, false);
        }
    }

    private static void interferenceOfDurations() {
        check.part("promise 17, fault 1, durations");
        for (int n = 0; n < 8; n += 7) {
            for (int which = 0; which <= 1; which++) {
                interferenceOfDuration(which, n);
            }
        }
        PlanJudge both = actions(2);
        both.last(1, 0, 3);
        both.last(1, 1, -2);
        change(both, 0, 0, 3, 1, 0);
        bothStart("a least duration, and no greatest one", both, true);
    }

    private static void interferenceOfDuration(int which, int n) {
        PlanJudge x = actions(2);
        x.amount(2, 1);
        x.number(n);
        x.amount(1, 1);
        x.last(1, which, n);
        change(x, 0, 0, n, 1, 0);
        bothStart("number " + n + " of a duration, which " + which, x, true);
        x.clear();
        x.last(1, which, -2);
        bothStart("no duration any more", x, false);
        x.clear();
        x.amount(2, 1);
        x.last(1, which, -1);
        bothStart("a duration of no number", x, false);
        PlanJudge y = actions(2);
        y.amount(2, 1);
        y.number(n);
        y.amount(1, 1);
        y.last(1, which, n);
        change(y, 0, 2, n, 1, 0);
        step(y, 0, 0, 2);
        step(y, 1, 0, 2);
        check.fault("an end does not look at durations", y, y.judge(), 0, -1);
    }

    private static void interferenceAmongMany() {
        check.part("promise 17, fault 1, one of many");
        for (int f = 0; f < 16; f++) {
            for (int n = 0; n < 8; n++) {
                PlanJudge x = actions(2);
                x.make(0, 0, f, true);
                x.compare(1, 0, n, 2);
                x.change(1, 0, n, 0);
                bothStart("fact " + f + " and number " + n, x, false);
            }
        }
        for (int i = 0; i < 3; i++) {
            PlanJudge needs = actions(2);
            needs.need(0, 0, 3, false);
            needs.need(0, 0, 4, false);
            needs.compare(0, 0, 5, 2);
            needs.compare(0, 0, 6, 2);
            if (i < 2) {
                needs.make(1, 0, 3 + i, false);
            } else {
                change(needs, 1, 0, 5, 1, 1);
            }
            bothStart("need " + i, needs, true);
            PlanJudge changes = actions(2);
            changes.change(0, 0, 1, 3);
            changes.make(0, 0, 1, true);
            changes.make(0, 0, 2, true);
            changes.change(0, 0, 2, 0);
            if (i < 2) {
                changes.need(1, 0, 1 + i, false);
            } else {
                change(changes, 1, 0, 1, 1, 1);
            }
            bothStart("change " + i, changes, true);
            PlanJudge mixed = actions(2);
            mixed.need(0, 0, 3, false);
            mixed.compare(0, 0, 5, 2);
            change(mixed, 0, 0, 4, 3, 1);
            if (i == 0) {
                mixed.make(1, 0, 3, true);
            } else {
                change(mixed, 1, 0, 3 + i, 2, 1);
            }
            bothStart("need or change " + i, mixed, true);
        }
        PlanJudge numbers = actions(2);
        change(numbers, 0, 0, 0, 1, 1);
        change(numbers, 0, 0, 1, 1, 1);
        numbers.compare(1, 0, 0, 0);
        bothStart("the first one of two numbers that change", numbers, true);
    }

    private static PlanJudge startsApart(int[] apart, int[] epsilon) {
        PlanJudge x = actions(2);
        x.amount(epsilon[0], epsilon[1]);
        x.epsilon();
        x.make(0, 0, 0, true);
        x.need(1, 0, 0, true);
        step(x, 0, new int[] {3, 1}, new int[] {9, 1});
        step(x, 1, new int[] {3 * apart[1] + apart[0], apart[1]}, new int[] {9, 1});
        return x;
    }

    private static void nearnessOfPoints() {
        check.part("promise 17, fault 1, nearness");
        PlanJudge near = startsApart(new int[] {1, 3}, new int[] {334, 1000});
        check.fault("less than EPSILON later", near, near.judge(), 1, 2);
        PlanJudge apart = startsApart(new int[] {1, 3}, new int[] {333, 1000});
        check.fault("more than EPSILON later", apart, apart.judge(), 0, -1);
        PlanJudge just = startsApart(new int[] {1, 3}, new int[] {1, 3});
        check.fault("EPSILON later", just, just.judge(), 0, -1);
        PlanJudge own = actions(1);
        own.make(0, 0, 0, true);
        own.make(0, 2, 0, false);
        step(own, 0, new int[] {5, 1}, new int[] {1, 1000});
        check.fault("a step of EPSILON", own, own.judge(), 0, -1);
        own.amount(1, 999);
        own.epsilon();
        check.fault("a step of less than EPSILON", own, own.judge(), 1, 1);
        PlanJudge far = actions(2);
        far.amount(5, 1);
        far.epsilon();
        far.make(0, 0, 0, true);
        far.make(1, 0, 0, false);
        step(far, 0, 0, 9);
        far.action();
        step(far, 2, 2, 1);
        step(far, 1, 4, 9);
        check.fault("with other points between", far, far.judge(), 1, 4);
    }

    private static void lowestInterferingPoint() {
        check.part("promise 17, fault 1, the point");
        PlanJudge x = actions(3);
        x.make(1, 0, 0, true);
        x.make(2, 0, 0, false);
        step(x, 0, 1, 5);
        step(x, 2, 1, 5);
        step(x, 1, 1, 5);
        check.fault("the lower one of two at a time", x, x.judge(), 1, 2);
        PlanJudge y = actions(2);
        y.make(0, 2, 0, true);
        y.make(1, 0, 0, false);
        step(y, 1, 3, 1);
        step(y, 0, 1, 2);
        check.fault("a start and a higher end", y, y.judge(), 1, 0);
        PlanJudge z = actions(2);
        z.make(0, 2, 0, true);
        z.make(1, 0, 0, false);
        step(z, 0, 1, 2);
        step(z, 1, 3, 1);
        check.fault("an end and a higher start", z, z.judge(), 1, 1);
    }

    private static void needs() {
        check.part("promise 17, fault 2");
        PlanJudge x = actions(2);
        x.make(0, 2, 0, true);
        x.need(1, 0, 0, true);
        step(x, 1, 4, 1);
        step(x, 0, 1, 2);
        check.fault("a later step whose need is made by then", x, x.judge(), 0, -1);
        x.clear();
        step(x, 0, 1, 2);
        step(x, 1, 2, 4);
        step(x, 1, 2, 5);
        check.fault("not made by then, the lowest point", x, x.judge(), 2, 2);
        x.clear();
        step(x, 1, 2, 5);
        step(x, 0, 1, 2);
        step(x, 1, 1, 5);
        check.fault("the earliest time before the lowest point", x, x.judge(), 2, 4);
        PlanJudge y = actions(1);
        y.need(0, 2, 3, true);
        y.make(0, 2, 3, true);
        step(y, 0, 1, 1);
        check.fault("an end's own change comes behind its need", y, y.judge(), 2, 1);
        PlanJudge z = actions(1);
        z.make(0, 0, 3, true);
        z.need(0, 2, 3, true);
        step(z, 0, 1, 1);
        check.fault("a start's change before the end's need", z, z.judge(), 0, -1);
        z.need(0, 0, 3, false);
        check.fault("a start's need is over then", z, z.judge(), 0, -1);
        z.need(0, 0, 4, true);
        z.need(0, 0, 5, true);
        z.fact(5, true);
        check.fault("one of several needs", z, z.judge(), 2, 0);
        z.fact(4, true);
        z.fact(5, false);
        check.fault("another one of them", z, z.judge(), 2, 0);
    }

    private static void durations() {
        check.part("promise 17, fault 3");
        PlanJudge x = actions(2);
        x.amount(3, 2);
        x.last(0, 0, 0);
        x.last(0, 1, 0);
        change(x, 1, 2, 0, 1, 2);
        step(x, 1, 0, 1);
        step(x, 0, 2, 3);
        check.fault("by the state so far", x, x.judge(), 0, -1);
        x.clear();
        step(x, 0, 0, 3);
        step(x, 1, 1, 1);
        check.fault("too long", x, x.judge(), 3, 0);
        x.clear();
        step(x, 1, 0, 1);
        step(x, 0, new int[] {2, 1}, new int[] {2999, 1000});
        check.fault("too short", x, x.judge(), 3, 2);
        x.clear();
        step(x, 1, 0, 1);
        step(x, 1, 8, 1);
        step(x, 0, new int[] {5, 1}, new int[] {3, 1});
        check.fault("what comes later doesn't count", x, x.judge(), 0, -1);
        x.clear();
        step(x, 1, 0, 1);
        step(x, 0, 2, 3);
        step(x, 1, 3, 1);
        step(x, 1, 5, 2);
        check.fault("nor does it while the step lasts", x, x.judge(), 0, -1);
        PlanJudge y = actions(1);
        y.amount(1, 2);
        y.last(0, 0, -1);
        y.amount(1, 1);
        y.epsilon();
        step(y, 0, new int[] {0, 1}, new int[] {1, 2});
        check.fault("the least one need not be EPSILON", y, y.judge(), 0, -1);
        y.amount(-1, 1);
        y.last(0, 0, -1);
        check.fault("a least one below 0", y, y.judge(), 0, -1);
        y.last(0, 1, -1);
        check.fault("a greatest one below 0", y, y.judge(), 3, 0);
        PlanJudge z = actions(2);
        z.amount(1, 1);
        z.last(1, 1, -1);
        step(z, 0, 0, 9);
        step(z, 1, 3, 2);
        step(z, 1, 3, 2);
        check.fault("the lowest one", z, z.judge(), 3, 2);
    }

    /** Some steps of 900000/97 each within a long one: its duration and bound cannot be multiplied crosswise. */
    private static void hugeDurations() {
        check.part("promise 17, fault 3, long fractions");
        PlanJudge x = actions(3);
        x.amount(9, 1);
        x.number(1);
        x.amount(100000, 97);
        x.last(1, 0, 1);
        step(x, 0, 0, 1);
        x.push(0);
        for (int s = 1; s <= 10; s++) {
            step(x, 1, 0, 1);
            x.push(2 * s);
            x.push(2 * s + 1);
        }
        x.push(1);
        x.make(1, 0, 0, true);
        x.make(1, 2, 0, false);
        check.same("arrange()", x.arrange(), 0);
        long unit = 97000;
        long due = 10 * (9 * 100000L * 1000) + 9 * 97;
        check.same("the long step lasts", x.above(1, 0) * (unit / x.below(1, 0)), due);
        int[][] factors = {{99991, 997}, {9973, 991}, {1, 983}};
        x.amount(1, 1);
        x.number(0);
        for (int i = 0; i < 3; i++) {
            int a = 2 + i;
            if (i > 0) {
                x.action();
            }
            x.amount(factors[i][0], factors[i][1]);
            x.change(a, 0, 0, 3);
        }
        x.amount(99989, 1);
        x.last(0, 0, 0);
        check.fault("number 0 is 1 as yet", x, x.judge(), 3, 0);
        x.last(0, 0, -2);
        x.clear();
        for (int i = 0; i < 3; i++) {
            step(x, 2 + i, i, 1);
        }
        check.same("judge()", x.judge(), 0);
        check.fraction(x, 2, 0, 997210243L, 971230541L);
        compareLongDuration(x);
    }

    private static void compareLongDuration(PlanJudge x) {
        x.clear();
        for (int i = 0; i < 3; i++) {
            step(x, 2 + i, 0, 1);
            x.push(2 * i);
            x.push(2 * i + 1);
        }
        step(x, 0, 0, 1);
        x.push(6);
        for (int s = 4; s <= 11; s++) {
            step(x, 1, 0, 1);
            x.push(2 * s);
            x.push(2 * s + 1);
        }
        x.push(7);
        check.same("arrange()", x.arrange(), 0);
        check.fraction(x, 1, 3, 8 * 900000000L + 7 * 97, 97000);
        int factor = (int) (x.above(1, 3) * 971230541L / (997210243L * x.below(1, 3)));
        int[][] dues = {{factor, 0, 3}, {factor + 1, 3, 0}, {factor - 1, 0, 3}, {99989, 3, 0}, {-99989, 0, 3}};
        for (int[] due : dues) {
            x.amount(due[0], 1);
            x.last(0, 0, 0);
            x.last(0, 1, -2);
            check.same("judge() with the least one " + due[0], x.judge(), due[1]);
            x.last(0, 0, -2);
            x.last(0, 1, 0);
            check.same("judge() with the greatest one " + due[0], x.judge(), due[2]);
        }
    }

    private static void tooLong() {
        check.part("promise 17, fault 4");
        int[][] cases = {{100000, 1, 10000, 1, 0}, {-100000, 1, 10000, 1, 0}, {100000, 1, 10001, 1, 4},
            {-100000, 1, 10001, 1, 4}, {100000, 1, 99999, 9, 4}, {100000, 1, 99990, 10, 0}};
        for (int[] c : cases) {
            PlanJudge x = actions(1);
            x.amount(c[0], c[1]);
            x.number(0);
            x.amount(c[2], c[3]);
            x.change(0, 2, 0, 3);
            step(x, 0, 0, 1);
            check.fault(c[0] + " times " + c[2] + "/" + c[3], x, x.judge(), c[4], c[4] == 0 ? -1 : 1);
        }
        PlanJudge x = actions(3);
        x.amount(1, 1000);
        x.number(0);
        x.change(0, 0, 0, 3);
        x.change(0, 2, 0, 3);
        step(x, 0, 0, 1);
        check.fault("1 / 10^9", x, x.judge(), 0, -1);
        check.fraction(x, 2, 0, 1, 1000000000L);
        x.amount(1, 2);
        x.change(1, 0, 0, 3);
        step(x, 1, 2, 1);
        check.fault("1 / (2 10^9)", x, x.judge(), 4, 2);
        check.fraction(x, 2, 0, 1, 1000000000L);
        x.clear();
        x.amount(1, 7);
        x.change(2, 0, 0, 1);
        step(x, 0, 0, 1);
        step(x, 2, 2, 1);
        check.fault("a sum over 7 10^9", x, x.judge(), 4, 2);
        x.clear();
        x.action();
        x.amount(1000, 1);
        x.change(3, 2, 0, 3);
        step(x, 0, 0, 1);
        step(x, 3, 2, 1);
        check.fault("1 / 10^6 in lowest terms", x, x.judge(), 0, -1);
        check.fraction(x, 2, 0, 1, 1000000L);
    }

    private static PlanJudge billion(int oneWay, int otherWay) {
        PlanJudge x = actions(3);
        x.amount(100000, 1);
        x.number(0);
        change(x, 0, 0, 0, 3, 10000);
        change(x, 1, 0, 0, oneWay, 1);
        change(x, 2, 0, 0, otherWay, 1);
        x.make(0, 0, 0, true);
        x.make(1, 0, 1, true);
        x.make(2, 0, 2, true);
        step(x, 0, 0, 1);
        step(x, 1, 2, 1);
        step(x, 2, 2, 1);
        return x;
    }

    private static void tooLongAtOneTime() {
        check.part("promise 17, fault 4, several points");
        PlanJudge growsFirst = billion(1, 2);
        check.fault("above 10^9 for a while", growsFirst, growsFirst.judge(), 4, 2);
        check.so("before all changes of the time", growsFirst.holds(0) && !growsFirst.holds(1) && !growsFirst.holds(2));
        check.fraction(growsFirst, 2, 0, 1000000000L, 1);
        PlanJudge shrinksFirst = billion(2, 1);
        check.fault("never above 10^9", shrinksFirst, shrinksFirst.judge(), 0, -1);
        check.fraction(shrinksFirst, 2, 0, 1000000000L, 1);
        PlanJudge second = billion(2, 1);
        change(second, 2, 0, 1, 1, 1);
        second.action();
        change(second, 3, 0, 0, 1, 1);
        step(second, 3, 2, 1);
        check.fault("the point whose change it is", second, second.judge(), 4, 6);
        check.so("before all changes of the time", second.holds(0) && !second.holds(1) && !second.holds(2));
        check.fraction(second, 2, 1, 0, 1);
    }

    private static void allOver() {
        check.part("promise 17, fault 5");
        PlanJudge x = actions(2);
        x.need(0, 1, 0, true);
        x.make(0, 0, 0, true);
        x.make(0, 2, 0, false);
        x.make(1, 0, 0, false);
        step(x, 0, 1, 3);
        check.fault("from the start's changes to before the end's", x, x.judge(), 0, -1);
        step(x, 1, 2, 1);
        check.fault("broken in between", x, x.judge(), 5, 0);
        check.so("behind the fault", !x.holds(0));
        x.clear();
        step(x, 1, 4, 1);
        step(x, 0, 1, 3);
        check.fault("what its end does not break", x, x.judge(), 0, -1);
        PlanJudge y = actions(3);
        y.make(0, 0, 0, true);
        y.make(1, 0, 0, false);
        y.need(2, 1, 0, true);
        step(y, 1, 5, 1);
        step(y, 2, 3, 4);
        step(y, 0, 1, 1);
        step(y, 2, 2, 4);
        check.fault("the start of the lowest step", y, y.judge(), 5, 2);
        y.clear();
        step(y, 0, 1, 1);
        step(y, 1, 4, 1);
        step(y, 2, 2, 2);
        check.fault("a step that ends at this time", y, y.judge(), 0, -1);
        y.clear();
        step(y, 0, 3, 1);
        step(y, 2, 3, 2);
        check.fault("a fact that is made as it begins", y, y.judge(), 0, -1);
        y.clear();
        step(y, 2, 3, 2);
        check.fault("a step that has just begun", y, y.judge(), 5, 0);
    }

    private static void goal() {
        check.part("promise 17, fault 6");
        PlanJudge x = actions(1);
        x.make(0, 0, 0, true);
        change(x, 0, 2, 0, 1, 5);
        step(x, 0, 0, 1);
        x.wish(0, 1);
        x.amount(5, 1);
        x.want(0, 2);
        check.fault("the goal is so", x, x.judge(), 0, -1);
        x.want(0, 4);
        check.fault("a number isn't", x, x.judge(), 6, -1);
        check.fraction(x, 2, 0, 5, 1);
        x.want(0, -1);
        x.wish(1, 1);
        check.fault("a fact isn't", x, x.judge(), 6, -1);
        check.so("the state in the end", x.holds(0));
    }

    /** Action 0 has every fault at its start, at point 2; they are taken away one by one. */
    private static void orderOfFaults() {
        check.part("promise 17, which fault is first");
        PlanJudge x = actions(3);
        x.make(0, 0, 0, true);
        x.make(1, 0, 0, false);
        x.need(0, 0, 1, true);
        x.need(0, 1, 2, true);
        x.amount(2, 1);
        x.last(0, 0, -1);
        x.amount(100000, 1);
        x.number(0);
        x.change(0, 0, 0, 3);
        x.wish(5, 1);
        step(x, 2, 0, 9);
        step(x, 0, 5, 1);
        step(x, 1, 5, 1);
        check.fault("all of them", x, x.judge(), 1, 2);
        x.clear();
        step(x, 2, 0, 9);
        step(x, 0, 5, 1);
        check.fault("no interference", x, x.judge(), 2, 2);
        x.fact(1, true);
        check.fault("needs met", x, x.judge(), 3, 2);
        x.last(0, 0, -2);
        check.fault("no bounds", x, x.judge(), 4, 2);
        x.amount(1, 1);
        x.number(0);
        check.fault("a shorter number", x, x.judge(), 5, 2);
        x.fact(2, true);
        check.fault("all over met", x, x.judge(), 6, -1);
        x.fact(5, true);
        check.fault("nothing", x, x.judge(), 0, -1);
        x.need(2, 2, 9, true);
        x.make(1, 2, 0, true);
        x.clear();
        step(x, 2, 0, 4);
        step(x, 0, 5, 1);
        step(x, 1, 5, 1);
        check.fault("the earlier fault, though the higher one", x, x.judge(), 2, 1);
        x.clear();
        x.action();
        x.need(3, 0, 10, true);
        x.amount(9, 1);
        x.last(1, 0, -1);
        step(x, 1, 5, 1);
        step(x, 3, 5, 1);
        check.fault("the lower fault, though at the higher point", x, x.judge(), 2, 2);
    }

    private static void stateReached() {
        check.part("promises 25 to 27");
        PlanJudge x = actions(2);
        x.fact(9, true);
        check.so("the first state before any", x.holds(9) && !x.holds(0));
        x.make(0, 0, 0, true);
        x.make(0, 2, 9, false);
        change(x, 0, 2, 3, 2, 4);
        x.need(1, 0, 8, true);
        step(x, 0, new int[] {5, 10}, new int[] {6, 4});
        check.fraction(x, 0, 0, 1, 2);
        check.fraction(x, 1, 0, 3, 2);
        check.so("judging hasn't been yet", !x.holds(0));
        check.same("judge()", x.judge(), 0);
        check.so("the end", x.holds(0) && !x.holds(9));
        check.fraction(x, 2, 3, -4, 1);
        step(x, 1, 1, 1);
        check.fraction(x, 2, 3, -4, 1);
        check.same("judge()", x.judge(), 2);
        check.so("before fault 2", x.holds(0) && x.holds(9));
        check.fraction(x, 2, 3, 0, 1);
        x.fact(8, true);
        x.amount(2, 1);
        x.last(1, 0, -1);
        check.same("judge()", x.judge(), 3);
        check.so("before fault 3", x.holds(0) && x.holds(9) && x.holds(8));
        x.last(1, 0, -2);
        x.make(1, 0, 7, true);
        x.make(1, 0, 0, false);
        x.amount(1, 1);
        x.epsilon();
        check.same("judge()", x.judge(), 1);
        check.so("before fault 1", x.holds(0) && !x.holds(7));
        x.amount(1, 1000);
        x.epsilon();
        x.need(1, 1, 6, true);
        check.same("judge()", x.judge(), 5);
        check.so("behind fault 5", !x.holds(0) && x.holds(7));
    }

    private static void askedWrongly() {
        check.part("promises 25 to 27, asked wrongly");
        PlanJudge x = actions(1);
        step(x, 0, 2, 3);
        for (int what : new int[] {-1, 3, Integer.MIN_VALUE, Integer.MAX_VALUE}) {
            check.throwsArgument("above(" + what + ", 0)", () -> x.above(what, 0));
            check.throwsArgument("above(" + what + ", -1)", () -> x.above(what, -1));
            check.throwsArgument("below(" + what + ", 0)", () -> x.below(what, 0));
            check.throwsArgument("below(" + what + ", 99)", () -> x.below(what, 99));
        }
        for (int i : new int[] {-1, 1, 12, Integer.MIN_VALUE, Integer.MAX_VALUE}) {
            for (int what = 0; what <= 1; what++) {
                int w = what;
                check.throwsIndex("above(" + w + ", " + i + ")", () -> x.above(w, i));
                check.throwsIndex("below(" + w + ", " + i + ")", () -> x.below(w, i));
            }
        }
        for (int n : new int[] {-1, 8, Integer.MIN_VALUE, Integer.MAX_VALUE}) {
            check.throwsIndex("above(2, " + n + ")", () -> x.above(2, n));
            check.throwsIndex("below(2, " + n + ")", () -> x.below(2, n));
        }
        check.throwsNothing("above(2, 7)", () -> x.above(2, 7));
        for (int f : new int[] {-1, 16, 32, Integer.MIN_VALUE, Integer.MAX_VALUE}) {
            check.throwsIndex("holds(" + f + ")", () -> x.holds(f));
        }
    }
}
