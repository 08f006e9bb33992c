/** The edges of promise 20: on which side of its limit each fault is found, and the earliest times there. */
final class ArrangeEdgeTest {
    private static final Check check = new Check();

    private ArrangeEdgeTest() {
    }

    public static void main(String[] args) {
        oneByOne();
        faultsOfOnePoint();
        begunAndNotEnded();
        boundsAhead();
        leastIsEpsilonAtLeast();
        tenThousand();
        hundredThousand();
        notEarlierAndEpsilonLater();
        withinTheBounds();
        noTimes();
        farBelowNought();
        check.close();
    }

    private static void oneByOne() {
        check.part("done one by one in their order, as if each had a time of its own");
        PlanJudge x = Tell.actions(3);
        x.make(0, 0, 0, true);
        x.need(1, 0, 0, true);
        x.make(1, 0, 0, false);
        x.need(2, 0, 0, false);
        int[] steps = {0, 1, 2};
        Tell.row(x, steps, 0, 2, 4, 1, 3, 5);
        check.fault("each by the one before", x, x.arrange(), 0, -1);
        Tell.row(x, steps, 2, 0, 4, 1, 3, 5);
        check.fault("the first point's", x, x.arrange(), 2, 2);
        Tell.row(x, steps, 0, 4, 2, 1, 3, 5);
        check.fault("the second point's", x, x.arrange(), 2, 4);
        x.need(2, 2, 5, true);
        Tell.row(x, steps, 0, 2, 4, 1, 3, 5);
        check.fault("the last point's", x, x.arrange(), 2, 5);
    }

    private static void faultsOfOnePoint() {
        check.part("the first fault 2, 4, 5 or 6 that there is");
        PlanJudge x = Tell.actions(2);
        x.need(1, 0, 0, true);
        x.amount(100000, 1);
        x.number(0);
        x.change(1, 0, 0, 3);
        x.need(1, 1, 1, true);
        x.wish(2, 1);
        Tell.row(x, new int[] {0, 1}, 0, 2, 1, 3);
        check.fault("2 ahead of 4", x, x.arrange(), 2, 2);
        x.fact(0, true);
        check.fault("4 ahead of 5", x, x.arrange(), 4, 2);
        x.amount(1, 1);
        x.number(0);
        check.fault("5 ahead of 6", x, x.arrange(), 5, 2);
        x.fact(1, true);
        check.fault("6", x, x.arrange(), 6, -1);
        x.fact(2, true);
        check.fault("none", x, x.arrange(), 0, -1);
        x.fact(1, false);
        x.need(0, 2, 9, true);
        Tell.row(x, new int[] {0, 1}, 0, 2, 1, 3);
        check.fault("5 at the second point ahead of 2 at the third one", x, x.arrange(), 5, 2);
        Tell.row(x, new int[] {0, 1}, 0, 1, 2, 3);
        check.fault("2 at the second point ahead of 5 at the third one", x, x.arrange(), 2, 1);
    }

    private static void begunAndNotEnded() {
        check.part("behind each point: 5 for all steps that have begun and not ended in the row");
        PlanJudge x = Tell.actions(2);
        x.need(0, 1, 0, false);
        x.make(1, 0, 0, true);
        x.make(1, 2, 0, false);
        int[] steps = {0, 0, 1};
        Tell.row(x, steps, 4, 5, 0, 2, 1, 3);
        check.fault("broken before", x, x.arrange(), 0, -1);
        Tell.row(x, steps, 0, 2, 3, 1, 4, 5);
        check.fault("broken behind", x, x.arrange(), 0, -1);
        Tell.row(x, steps, 0, 2, 4, 5, 3, 1);
        check.fault("broken within both", x, x.arrange(), 5, 0);
        Tell.row(x, steps, 2, 0, 1, 4, 5, 3);
        check.fault("broken within step 1", x, x.arrange(), 5, 2);
        Tell.row(x, steps, 4, 2, 5, 0, 1, 3);
        check.fault("broken as step 1 begins", x, x.arrange(), 5, 2);
        check.so("the state behind", x.holds(0));
        Tell.row(x, steps, 2, 4, 3, 5, 0, 1);
        check.fault("broken until step 1 has ended", x, x.arrange(), 5, 2);
    }

    private static void boundsAhead() {
        check.part("BOUNDS are each step's least and greatest duration by the state ahead of its start");
        PlanJudge x = Tell.actions(2);
        x.amount(3, 1);
        x.number(5);
        x.amount(1, 1);
        x.last(0, 0, 5);
        x.last(0, 1, 5);
        Tell.change(x, 0, 0, 5, 0, 7, 1);
        Tell.change(x, 1, 0, 5, 0, 9, 1);
        Tell.row(x, new int[] {0, 1, 0}, 0, 1, 2, 3, 4, 5);
        check.fault("arrange()", x, x.arrange(), 0, -1);
        check.fraction(x, 1, 0, 3, 1);
        check.fraction(x, 1, 2, 9, 1);
        Tell.row(x, new int[] {1, 0, 0}, 2, 4, 0, 1, 3, 5);
        check.fault("arrange() with the change behind the starts", x, x.arrange(), 0, -1);
        check.fraction(x, 1, 1, 3, 1);
        check.fraction(x, 1, 2, 7, 1);
    }

    private static void leastIsEpsilonAtLeast() {
        check.part("a least one is EPSILON at least, also if there is none");
        int[][] told = {{-1, 1}, {0, 1}, {1, 8}, {1, 7}, {1, 6}};
        for (int i = -1; i < told.length; i++) {
            PlanJudge x = Tell.actions(1);
            x.amount(1, 7);
            x.epsilon();
            if (i >= 0) {
                Tell.bound(x, 0, 0, told[i][0], told[i][1]);
            }
            Tell.row(x, new int[] {0}, 0, 1);
            check.fault("arrange()", x, x.arrange(), 0, -1);
            check.fraction(x, 1, 0, 1, i == 4 ? 6 : 7);
            for (int down = 6; down <= 8; down++) {
                Tell.bound(x, 0, 1, 1, down);
                boolean fits = down <= (i == 4 ? 6 : 7);
                check.fault("least " + i + ", greatest 1/" + down, x, x.arrange(), fits ? 0 : 7, -1);
            }
        }
    }

    private static void tenThousand() {
        check.part("fault 8: if one of them or EPSILON is above 10000");
        for (int which = 0; which <= 1; which++) {
            PlanJudge x = Tell.actions(1);
            x.amount(1, 1);
            x.epsilon();
            x.amount(52579, 100);
            x.number(0);
            Tell.row(x, new int[] {0}, 0, 1);
            for (int p : new int[] {19018, 19019}) {
                x.amount(p, 1000);
                x.last(0, which, 0);
                check.fault("which " + which + ": " + p + " times 52579 over 100000", x, x.arrange(), p == 19019 ? 8 : 0, -1);
            }
            for (int p : new int[] {9999, 10000, 10001, 100000}) {
                Tell.bound(x, 0, which, p, 1);
                check.fault("which " + which + ": " + p, x, x.arrange(), p > 10000 ? 8 : 0, -1);
            }
        }
        for (int steps = 0; steps <= 1; steps++) {
            PlanJudge x = Tell.actions(1);
            Tell.row(x, new int[steps]);
            for (int point = 0; point < 2 * steps; point++) {
                x.push(point);
            }
            for (int[] epsilon : new int[][] {{9999, 1}, {10000, 1}, {10001, 1}, {90001, 9}, {100000, 1}, {89999, 9}}) {
                x.amount(epsilon[0], epsilon[1]);
                x.epsilon();
                boolean fits = epsilon[0] <= 10000 * epsilon[1];
                check.fault("EPSILON " + epsilon[0] + "/" + epsilon[1], x, x.arrange(), fits ? 0 : 8, -1);
            }
        }
    }

    /** EPSILON is 1 / first, the greatest duration 1 / second, which is more. */
    private static int faultOfDenominators(int first, int second, int numberDown) {
        PlanJudge x = Tell.actions(1);
        x.amount(1, first);
        x.epsilon();
        x.amount(1, numberDown);
        x.number(0);
        x.amount(1, second);
        x.last(0, 1, 0);
        Tell.row(x, new int[] {0}, 0, 1);
        return x.arrange();
    }

    private static void hundredThousand() {
        check.part("fault 8: or the least common multiple of their denominators is above 100000");
        check.same("369 and 271: 99999", faultOfDenominators(369, 271, 1), 0);
        check.same("885 and 113: 100005", faultOfDenominators(885, 113, 1), 8);
        check.same("1000 and 999: 999000", faultOfDenominators(1000, 999, 1), 8);
        check.same("1000 and 960: 24000", faultOfDenominators(1000, 960, 1), 0);
        check.same("1000 and 1000", faultOfDenominators(1000, 1000, 1), 0);
        PlanJudge x = Tell.actions(3);
        Tell.bound(x, 0, 0, 1, 32);
        x.amount(1, 625);
        x.number(3);
        x.amount(4, 5);
        x.last(1, 0, 3);
        Tell.row(x, new int[] {0, 1}, 0, 1, 2, 3);
        check.fault("1000, 32 and 3125: 100000", x, x.arrange(), 0, -1);
        check.fraction(x, 0, 1, 1, 32);
        check.fraction(x, 1, 1, 4, 3125);
        Tell.bound(x, 2, 1, 7, 3);
        check.fault("of an action that isn't done", x, x.arrange(), 0, -1);
        Tell.row(x, new int[] {0, 1, 2}, 0, 1, 2, 3, 4, 5);
        check.fault("and 3: 300000", x, x.arrange(), 8, -1);
        Tell.bound(x, 2, 1, 7, 50);
        check.fault("and 50: 100000", x, x.arrange(), 0, -1);
        PlanJudge y = Tell.actions(1);
        Tell.bound(y, 0, 0, 1, 999);
        Tell.row(y, new int[] {0}, 0, 1);
        check.fault("1000 and 999", y, y.arrange(), 8, -1);
        y.amount(1, 998);
        y.epsilon();
        check.fault("a least one below EPSILON isn't one of them", y, y.arrange(), 0, -1);
        check.fraction(y, 1, 0, 1, 998);
    }

    private static void notEarlierAndEpsilonLater() {
        check.part("the first point at 0 or later; the later one not earlier, and at least EPSILON later if they interfere");
        PlanJudge x = Tell.actions(2);
        x.amount(1, 3);
        x.epsilon();
        x.make(0, 0, 0, true);
        x.make(1, 0, 0, true);
        Tell.row(x, new int[] {0, 1}, 2, 0, 1, 3);
        check.fault("arrange()", x, x.arrange(), 0, -1);
        check.fraction(x, 0, 1, 0, 1);
        check.fraction(x, 0, 0, 0, 1);
        check.fraction(x, 1, 0, 1, 3);
        check.fraction(x, 1, 1, 1, 3);
        x.need(0, 0, 0, true);
        check.fault("arrange()", x, x.arrange(), 0, -1);
        check.fraction(x, 0, 1, 0, 1);
        check.fraction(x, 0, 0, 1, 3);
        check.fraction(x, 1, 0, 1, 3);
        check.fraction(x, 1, 1, 2, 3);
        check.same("judge()", x.judge(), 0);
        PlanJudge y = Tell.actions(2);
        y.make(0, 0, 0, true);
        y.make(0, 2, 0, false);
        Tell.row(y, new int[] {0, 1, 1, 0}, 0, 2, 1, 4, 6, 3, 5, 7);
        check.fault("arrange() with points between those that interfere", y, y.arrange(), 0, -1);
        check.fraction(y, 0, 1, 0, 1);
        check.fraction(y, 0, 2, 1, 1000);
        check.fraction(y, 0, 3, 1, 500);
    }

    private static void withinTheBounds() {
        check.part("each end behind its start by a duration within the bounds: the earliest times");
        PlanJudge x = Tell.actions(3);
        Tell.bound(x, 0, 0, 5, 1);
        Tell.bound(x, 1, 1, 2, 1);
        Tell.bound(x, 2, 0, 3, 1);
        Tell.bound(x, 2, 1, 3, 1);
        Tell.row(x, new int[] {0, 1}, 0, 2, 1, 3);
        check.fault("the greatest one delays the start", x, x.arrange(), 0, -1);
        check.fraction(x, 0, 1, 3, 1);
        check.fraction(x, 1, 1, 2, 1);
        check.fraction(x, 1, 0, 5, 1);
        Tell.row(x, new int[] {0, 2}, 0, 2, 3, 1);
        check.fault("both bounds alike", x, x.arrange(), 0, -1);
        check.fraction(x, 0, 1, 0, 1);
        check.fraction(x, 1, 1, 3, 1);
        Tell.row(x, new int[] {0, 2}, 2, 0, 3, 1);
        check.fault("both bounds alike, begun before", x, x.arrange(), 0, -1);
        check.fraction(x, 0, 0, 0, 1);
        check.fraction(x, 1, 1, 3, 1);
        Tell.row(x, new int[] {1, 2, 0}, 4, 0, 2, 1, 3, 5);
        check.fault("a chain", x, x.arrange(), 0, -1);
        check.fraction(x, 0, 0, 0, 1);
        check.fraction(x, 0, 1, 0, 1);
        check.fraction(x, 1, 0, 1, 1000);
        check.fraction(x, 1, 2, 5, 1);
    }

    private static void noTimes() {
        check.part("fault 7: if there are none");
        for (int greatest = 4; greatest <= 6; greatest++) {
            PlanJudge x = Tell.actions(2);
            Tell.bound(x, 0, 1, greatest, 1);
            Tell.bound(x, 1, 0, 5, 1);
            Tell.row(x, new int[] {0, 1}, 0, 2, 3, 1);
            check.fault("5 within " + greatest, x, x.arrange(), greatest < 5 ? 7 : 0, -1);
            check.fraction(x, 1, 0, greatest < 5 ? 1 : 5, 1);
            Tell.row(x, new int[] {0, 1}, 2, 0, 3, 1);
            check.fault("overlapping by up to " + greatest, x, x.arrange(), 0, -1);
            check.fraction(x, 0, 0, Math.max(0, 5 - greatest), 1);
        }
        for (int thousandths = 5001; thousandths <= 5003; thousandths++) {
            PlanJudge x = Tell.actions(2);
            x.make(0, 0, 0, true);
            x.make(0, 2, 0, true);
            x.make(1, 0, 0, false);
            x.make(1, 2, 0, false);
            Tell.bound(x, 0, 1, thousandths, 1000);
            Tell.bound(x, 1, 0, 5, 1);
            Tell.row(x, new int[] {0, 1}, 0, 2, 3, 1);
            check.fault("5 and twice EPSILON within " + thousandths, x, x.arrange(), thousandths < 5002 ? 7 : 0, -1);
            if (thousandths >= 5002) {
                check.fraction(x, 0, 1, 1, 1000);
                check.fraction(x, 1, 0, 2501, 500);
            }
        }
    }

    /** In units of 1/100000 such a bound is below what a long can hold. */
    private static void farBelowNought() {
        check.part("fault 7: a greatest duration of -10^14, in the finest unit");
        PlanJudge x = Tell.actions(3);
        x.amount(-100000, 1);
        x.number(0);
        Tell.change(x, 0, 0, 0, 3, 10000, 1);
        Tell.bound(x, 0, 0, 1, 32);
        x.amount(1, 625);
        x.number(3);
        x.amount(4, 5);
        x.last(1, 0, 3);
        Tell.row(x, new int[] {0, 1, 2}, 0, 1, 2, 3, 4, 5);
        check.fault("no greatest one", x, x.arrange(), 0, -1);
        for (int p : new int[] {100000, 99999, 50000, 1}) {
            x.amount(p, 1);
            x.last(2, 1, 0);
            check.fault("-10^9 times " + p, x, x.arrange(), 7, -1);
            x.amount(-p, 1);
            x.last(2, 1, 0);
            check.fault("-10^9 times " + -p, x, x.arrange(), 8, -1);
            x.amount(-p, 1);
            x.last(2, 1, -2);
            x.last(2, 0, 0);
            check.fault("a least one of -10^9 times " + -p, x, x.arrange(), 8, -1);
            x.amount(p, 1);
            x.last(2, 0, 0);
            check.fault("a least one of -10^9 times " + p, x, x.arrange(), 0, -1);
            x.last(2, 0, -2);
        }
    }
}
