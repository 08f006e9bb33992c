/** The edges of promise 17: on which side of its limit each fault is found, TOO LONG among them. */
final class JudgeEdgeTest {
    private static final Check check = new Check();
    /** Factors whose products lie at the limits of TOO LONG; a seventh of the last one's is the first that is beyond. */
    private static final int[][] BILLION = {{100000, 1}, {10000, 1}};
    private static final int[][] LESS_BILLION = {{-100000, 1}, {10000, 1}};
    private static final int[][] BILLIONTH = {{1, 1000}, {1, 1000}, {1, 1000}};
    private static final int[][] SEVENTH_OF_MORE = {{1, 981}, {1, 872}, {1, 167}};

    private JudgeEdgeTest() {
    }

    public static void main(String[] args) {
        lessThanEpsilonEarlier();
        exactTimes();
        stateSoFar();
        durationByTheStateSoFar();
        longestNumbers();
        tooLongNumbers();
        tooLongInARow();
        begunByNowAndEndsLater();
        goalInTheEnd();
        firstTimeLowestNumberLowestPoint();
        stateOfEachFault();
        check.close();
    }

    private static PlanJudge apart(int epsilonDown, int firstDown, int secondDown, boolean laterIsLower) {
        PlanJudge x = Tell.actions(2);
        x.make(0, 0, 0, true);
        x.make(1, 0, 0, false);
        x.amount(1, epsilonDown);
        x.epsilon();
        x.amount(50, 1);
        for (int turn = 0; turn < 2; turn++) {
            boolean later = (turn == 0) == laterIsLower;
            x.moment(1, later ? secondDown : firstDown);
            x.step(later ? 1 : 0);
        }
        return x;
    }

    private static void lessThanEpsilonEarlier() {
        check.part("fault 1: another one that has this time, too, or one that comes less than EPSILON earlier");
        for (int turn = 0; turn < 2; turn++) {
            boolean laterIsLower = turn == 1;
            int later = laterIsLower ? 0 : 2;
            PlanJudge together = apart(1000, 40, 40, laterIsLower);
            check.fault("at this time, too", together, together.judge(), 1, 0);
            PlanJudge nearer = apart(631, 30, 29, laterIsLower);
            check.fault("870 is above 631", nearer, nearer.judge(), 1, later);
            PlanJudge next = apart(869, 30, 29, laterIsLower);
            check.fault("1/870 earlier, EPSILON 1/869", next, next.judge(), 1, later);
            PlanJudge just = apart(870, 30, 29, laterIsLower);
            check.fault("1/870 earlier, EPSILON 1/870", just, just.judge(), 0, -1);
            PlanJudge farther = apart(871, 30, 29, laterIsLower);
            check.fault("1/870 earlier, EPSILON 1/871", farther, farther.judge(), 0, -1);
        }
    }

    /** Steps 0 and 1 end 1/987038973000 apart, or at the same time; their ends interfere. */
    private static void exactTimes() {
        check.part("fault 1: the times are exact fractions");
        int[] earlier = {98343, 997, 99061, 991};
        int[] later = {99037, 1000, 99463, 999};
        int[][][] pairs = {{earlier, later, {3}}, {later, earlier, {1}}, {later, later, {1}}, {earlier, earlier, {1}}};
        for (int[][] pair : pairs) {
            PlanJudge x = Tell.actions(2);
            x.make(0, 2, 0, true);
            x.make(1, 2, 0, false);
            for (int s = 0; s < 2; s++) {
                x.moment(pair[s][0], pair[s][1]);
                x.amount(pair[s][2], pair[s][3]);
                x.step(s);
            }
            check.fault("ends of " + pair[0][0] + " and " + pair[1][0], x, x.judge(), 1, pair[2][0]);
        }
    }

    private static void stateSoFar() {
        check.part("fault 2: isn't so in the state so far");
        PlanJudge x = Tell.actions(2);
        x.make(0, 0, 0, true);
        x.need(1, 0, 0, true);
        x.amount(3, 1);
        x.epsilon();
        Tell.step(x, 0, 5, 9);
        Tell.step(x, 1, 8, 9);
        check.fault("made EPSILON earlier", x, x.judge(), 0, -1);
        x.clear();
        Tell.step(x, 0, 5, 9);
        Tell.step(x, 1, 2, 9);
        check.fault("made EPSILON later", x, x.judge(), 2, 2);
        PlanJudge own = Tell.actions(1);
        own.need(0, 0, 4, true);
        own.make(0, 0, 4, true);
        Tell.step(own, 0, 0, 1);
        check.fault("made by the point itself", own, own.judge(), 2, 0);
    }

    private static void durationByTheStateSoFar() {
        check.part("fault 3: below the least or above the greatest one, by the state so far");
        for (int which = 0; which <= 1; which++) {
            PlanJudge x = Tell.actions(2);
            x.amount(which == 0 ? 4 : 6, 1);
            x.number(0);
            x.amount(1, 1);
            x.last(1, which, 0);
            Tell.change(x, 0, 0, 0, 0, 5, 1);
            for (int lasts = 4; lasts <= 6; lasts++) {
                boolean right = which == 0 ? lasts >= 5 : lasts <= 5;
                x.clear();
                Tell.step(x, 0, 1, 50);
                Tell.step(x, 1, 2, lasts);
                check.fault("number 0 is 5, the step lasts " + lasts, x, x.judge(), right ? 0 : 3, right ? -1 : 2);
                x.clear();
                Tell.step(x, 0, 2, 50);
                Tell.step(x, 1, 1, lasts);
                check.fault("number 0 is not 5 as yet, the step lasts " + lasts, x, x.judge(), 0, -1);
            }
        }
    }

    /** An action for each factor: number 0 is the first one, and then becomes itself times each of the others. */
    private static PlanJudge product(int[][] factors) {
        PlanJudge x = Tell.actions(factors.length);
        for (int i = 0; i < factors.length; i++) {
            x.amount(factors[i][0], factors[i][1]);
            x.change(i, 0, 0, i == 0 ? 0 : 3);
        }
        for (int i = 0; i < factors.length; i++) {
            Tell.step(x, i, 2 * i, 1);
        }
        return x;
    }

    /** One action more changes number 0 in this way at its end. */
    private static PlanJudge productThen(int[][] factors, int way, int p, int q) {
        PlanJudge x = product(factors);
        int a = x.action();
        Tell.change(x, a, 2, 0, way, p, q);
        Tell.step(x, a, 30, 1);
        return x;
    }

    private static void comesTo(String what, PlanJudge x, long up, long down) {
        check.fault(what, x, x.judge(), 0, -1);
        check.fraction(x, 2, 0, up, down);
    }

    private static void longestNumbers() {
        check.part("TOO LONG: not with a numerator (without sign) or a denominator of 1000000000");
        long most = 1000000000L;
        comesTo("10^9", product(BILLION), most, 1);
        comesTo("-10^9", product(LESS_BILLION), -most, 1);
        comesTo("1/10^9", product(BILLIONTH), 1, most);
        comesTo("-1/10^9", productThen(BILLIONTH, 3, -1, 1), -1, most);
        comesTo("10^9 - 1", productThen(BILLION, 2, 1, 1), most - 1, 1);
        comesTo("-10^9 + 1", productThen(LESS_BILLION, 1, 1, 1), -most + 1, 1);
        comesTo("10^9 + 0", productThen(BILLION, 1, 0, 1), most, 1);
        comesTo("10^9 times -1", productThen(BILLION, 3, -1, 1), -most, 1);
        comesTo("10^9 times 999/1000", productThen(BILLION, 3, 999, 1000), 999000000, 1);
        comesTo("10^9 becomes 7", productThen(BILLION, 0, 7, 1), 7, 1);
        comesTo("10^9 times 0", productThen(BILLION, 3, 0, 1), 0, 1);
        comesTo("1/10^9 + 1/1000", productThen(BILLIONTH, 1, 1, 1000), 1000001, most);
        comesTo("1/10^9 - 1/1000", productThen(BILLIONTH, 2, 1, 1000), -999999, most);
        comesTo("1/10^9 times 1000", productThen(BILLIONTH, 3, 1000, 1), 1, 1000000);
        comesTo("1/142857144", product(SEVENTH_OF_MORE), 1, 142857144);
        comesTo("1/142857144 times 1/6", productThen(SEVENTH_OF_MORE, 3, 1, 6), 1, 857142864);
    }

    /** The state told is the one before. */
    private static void becomesTooLong(String what, PlanJudge x, long up, long down) {
        check.fault(what, x, x.judge(), 4, 2 * x.count(3) - 1);
        check.fraction(x, 2, 0, up, down);
    }

    private static void tooLongNumbers() {
        check.part("TOO LONG: if its numerator (without sign) or its denominator is above 1000000000");
        long most = 1000000000L;
        becomesTooLong("10^9 + 1", productThen(BILLION, 1, 1, 1), most, 1);
        becomesTooLong("10^9 - -1", productThen(BILLION, 2, -1, 1), most, 1);
        becomesTooLong("-10^9 - 1", productThen(LESS_BILLION, 2, 1, 1), -most, 1);
        becomesTooLong("-10^9 + -1", productThen(LESS_BILLION, 1, -1, 1), -most, 1);
        becomesTooLong("10^9 times 1001/1000", productThen(BILLION, 3, 1001, 1000), most, 1);
        becomesTooLong("-10^9 times 1001/1000", productThen(LESS_BILLION, 3, 1001, 1000), -most, 1);
        becomesTooLong("10^9 times -1001/1000", productThen(BILLION, 3, -1001, 1000), most, 1);
        becomesTooLong("10^9 - 1/2", productThen(BILLION, 2, 1, 2), most, 1);
        becomesTooLong("1/142857144 times 1/7", productThen(SEVENTH_OF_MORE, 3, 1, 7), 1, 142857144);
        becomesTooLong("1/10^9 times 1/2", productThen(BILLIONTH, 3, 1, 2), 1, most);
        becomesTooLong("1/10^9 + 1/3", productThen(BILLIONTH, 1, 1, 3), 1, most);
        becomesTooLong("1/10^9 - 1/3", productThen(BILLIONTH, 2, 1, 3), 1, most);
        becomesTooLong("1/10^9 + 1", productThen(BILLIONTH, 1, 1, 1), 1, most);
    }

    private static void tooLongInARow() {
        check.part("TOO LONG: in a row, too, and no such row is sought");
        for (int amount = 9999; amount <= 10001; amount++) {
            for (int sign = -1; sign <= 1; sign += 2) {
                PlanJudge x = Tell.actions(1);
                x.amount(100000, 1);
                x.number(7);
                Tell.change(x, 0, 2, 7, 3, sign * amount, 1);
                x.make(0, 2, 0, true);
                Tell.row(x, new int[] {0}, 0, 1);
                boolean fits = amount <= 10000;
                check.fault("10^5 times " + sign * amount, x, x.arrange(), fits ? 0 : 4, fits ? -1 : 1);
                check.fraction(x, 2, 7, fits ? 100000L * sign * amount : 100000, 1);
                x.wish(0, 1);
                check.same("seek(6)", x.seek(6), fits ? 2 : -1);
            }
        }
    }

    private static void begunByNowAndEndsLater() {
        check.part("fault 5: a step that has begun by now and ends later");
        int[][] dues = {{4, 0}, {5, 5}, {7, 5}, {9, 5}, {10, 0}, {11, 0}};
        for (int[] due : dues) {
            PlanJudge x = Tell.actions(2);
            x.need(0, 1, 0, false);
            x.make(1, 0, 0, true);
            x.make(1, 2, 0, false);
            Tell.step(x, 0, 5, 5);
            x.amount(1, 2);
            x.moment(due[0], 1);
            x.step(1);
            check.fault("from 5 to 10, broken from " + due[0] + " on for 1/2", x, x.judge(), due[1], due[1] == 0 ? -1 : 0);
        }
        PlanJudge x = Tell.actions(1);
        x.need(0, 1, 3, true);
        x.make(0, 2, 3, true);
        Tell.step(x, 0, 0, 1);
        check.fault("made by its own end", x, x.judge(), 5, 0);
        PlanJudge y = Tell.actions(2);
        y.need(0, 1, 3, true);
        y.make(1, 2, 3, true);
        Tell.step(y, 0, 6, 1);
        Tell.step(y, 1, 0, 6);
        check.fault("made as it begins", y, y.judge(), 0, -1);
    }

    private static void goalInTheEnd() {
        check.part("fault 6: the goal isn't so in the end");
        for (int goal = 2; goal <= 4; goal++) {
            PlanJudge x = Tell.actions(1);
            Tell.change(x, 0, 0, 7, 1, 1, 1);
            Tell.change(x, 0, 2, 7, 1, 2, 1);
            x.amount(goal, 1);
            x.want(7, 2);
            Tell.row(x, new int[] {0}, 0, 1);
            check.fault("judge(), " + goal + " wanted", x, x.judge(), goal == 3 ? 0 : 6, -1);
            check.fault("arrange(), " + goal + " wanted", x, x.arrange(), goal == 3 ? 0 : 6, -1);
            check.fraction(x, 2, 7, 3, 1);
        }
    }

    private static void firstTimeLowestNumberLowestPoint() {
        check.part("The first FAULT: at the first such time the lowest of these numbers, there at the lowest point");
        PlanJudge x = Tell.actions(4);
        x.need(0, 0, 0, true);
        Tell.bound(x, 1, 0, 5, 1);
        x.need(2, 1, 0, true);
        x.make(3, 0, 1, true);
        x.make(3, 2, 1, false);
        Tell.step(x, 0, 3, 1);
        Tell.step(x, 2, 2, 9);
        check.fault("5 at 2 ahead of 2 at 3", x, x.judge(), 5, 2);
        x.clear();
        Tell.step(x, 1, 3, 1);
        Tell.step(x, 0, 3, 1);
        Tell.step(x, 0, 3, 2);
        check.fault("2 at the points 2 and 4 ahead of 3 at point 0", x, x.judge(), 2, 2);
        x.clear();
        Tell.step(x, 2, 3, 9);
        Tell.step(x, 1, 3, 1);
        Tell.step(x, 1, 3, 1);
        check.fault("3 at the points 2 and 4 ahead of 5 at point 0", x, x.judge(), 3, 2);
        x.clear();
        Tell.step(x, 0, 4, 9);
        Tell.step(x, 3, 4, 9);
        Tell.step(x, 3, 1, 3);
        check.fault("1 at the points 2 and 5 ahead of 2 at point 0", x, x.judge(), 1, 2);
        x.clear();
        Tell.step(x, 3, 1, 3);
        Tell.step(x, 2, 2, 9);
        Tell.step(x, 2, 2, 9);
        check.fault("5 at the start of the lowest step", x, x.judge(), 5, 2);
    }

    private static PlanJudge marked(int... begins) {
        PlanJudge x = Tell.actions(begins.length);
        for (int s = 0; s < begins.length; s++) {
            x.make(s, 0, s, true);
            Tell.step(x, s, begins[s], 50);
        }
        return x;
    }

    private static int factsOf(PlanJudge x) {
        int facts = 0;
        for (int f = 0; f < 16; f++) {
            facts |= x.holds(f) ? 1 << f : 0;
        }
        return facts;
    }

    private static void stateOfEachFault() {
        check.part("before a fault 1, 2 or 3, behind a fault 5, before the changes of a fault 4");
        for (int fault = 1; fault <= 6; fault++) {
            PlanJudge x = marked(1, 2, 2, 3);
            switch (fault) {
                case 1 -> {
                    Tell.change(x, 1, 0, 0, 0, 1, 1);
                    Tell.change(x, 2, 0, 0, 0, 1, 1);
                }
                case 2 -> x.need(2, 0, 9, true);
                case 3 -> Tell.bound(x, 2, 0, 51, 1);
                case 4 -> {
                    x.amount(100000, 1);
                    x.number(0);
                    x.change(2, 0, 0, 3);
                }
                case 5 -> x.need(2, 1, 9, true);
                default -> x.wish(9, 1);
            }
            check.fault("fault " + fault, x, x.judge(), fault, fault == 6 ? -1 : fault == 1 ? 2 : 4);
            check.same("facts at fault " + fault, factsOf(x), fault == 6 ? 15 : fault == 5 ? 7 : 1);
            for (int point : new int[] {0, 2, 4, 6, 1, 3, 5, 7}) {
                x.push(point);
            }
            int due = fault == 1 ? 0 : fault == 3 ? 0 : fault;
            check.fault("arrange()", x, x.arrange(), due, due == 0 || due == 6 ? -1 : 4);
            check.same("facts of arrange()", factsOf(x), due == 0 || due == 6 ? 15 : due == 5 ? 7 : 3);
            check.so("step 3 begins at 3 with a fault alone", (x.above(0, 3) == 3 * x.below(0, 3)) == (due != 0));
        }
    }
}
