/** The edges of promises 17, 20 and 21: on which side of its limit each fault is found, and which row is sought. */
final class FaultEdgeTest {
    private static final Check check = new Check();
    private static final String[] KINDS = {"need", "compare", "make true", "make false", "becomes", "grows", "shrinks",
        "times", "least", "greatest", "all over"};

    private FaultEdgeTest() {
    }

    public static void main(String[] args) {
        interference();
        interferenceInARow();
        plainDurationsAndFacts();
        lessThanEpsilonEarlier();
        exactTimes();
        stateSoFar();
        durationByTheStateSoFar();
        longestNumbers();
        tooLongNumbers();
        tooLongInARow();
        begunByNowAndEndsLater();
        goalInTheEnd();
        firstTimeLowestNumberLowestPoint();
        stateOfEachFault();
        oneByOne();
        faultsOfOnePoint();
        begunAndNotEnded();
        boundsAhead();
        leastIsEpsilonAtLeast();
        tenThousand();
        hundredThousand();
        notEarlierAndEpsilonLater();
        withinTheBounds();
        noTimes();
        farBelowNought();
        atMostSoManyEvents();
        fewestEvents();
        eventByEvent();
        soughtInOrderOfBeginning();
        soughtAndArranged();
        planAndRowStay();
        check.close();
    }

    private static PlanJudge actions(int size) {
        return Check.objectWith(size, 1);
    }

    private static void step(PlanJudge x, int a, int begin, int lasts) {
        x.moment(begin, 1);
        x.amount(lasts, 1);
        x.step(a);
    }

    /** Steps of these actions, and these points in the row. */
    private static void row(PlanJudge x, int[] actions, int... points) {
        x.clear();
        x.amount(1, 1);
        for (int a : actions) {
            x.step(a);
        }
        for (int point : points) {
            x.push(point);
        }
    }

    private static void change(PlanJudge x, int a, int time, int n, int way, int p, int q) {
        x.amount(p, q);
        x.change(a, time, n, way);
    }

    private static void bound(PlanJudge x, int a, int which, int p, int q) {
        x.amount(p, q);
        x.last(a, which, -1);
    }

    private static boolean changesFact(int kind) {
        return kind == 2 || kind == 3;
    }

    private static boolean changesNumber(int kind) {
        return kind >= 4 && kind <= 7;
    }

    private static boolean looksAtNumber(int kind, int time) {
        return kind == 1 || kind == 7 || (kind == 8 || kind == 9) && time == 0;
    }

    private static boolean interfere(int one, int oneTime, int other, int otherTime) {
        boolean stepwise = (one == 5 || one == 6) && (other == 5 || other == 6);
        return changesFact(one) && other == 0
                || one == 0 && changesFact(other)
                || changesNumber(one) && looksAtNumber(other, otherTime)
                || looksAtNumber(one, oneTime) && changesNumber(other)
                || changesFact(one) && changesFact(other) && one != other
                || changesNumber(one) && changesNumber(other) && !stepwise;
    }

    /** Fact i is false and number i is 100, so that needs and durations are met. */
    private static void tellKind(PlanJudge x, int a, int kind, int time, int i) {
        x.amount(1, kind == 8 ? 1000 : 1);
        switch (kind) {
            case 0 -> x.need(a, time, i, false);
            case 1 -> x.compare(a, time, i, 3);
            case 2, 3 -> x.make(a, time, i, kind == 2);
            case 4, 5, 6, 7 -> x.change(a, time, i, kind - 4);
            case 8, 9 -> x.last(a, kind - 8, i);
            default -> x.need(a, 1, i, false);
        }
    }

    private static PlanJudge twoKinds(int one, int oneTime, int other, int otherTime, int otherIndex) {
        PlanJudge x = actions(2);
        x.amount(100, 1);
        for (int n = 0; n < 8; n++) {
            x.number(n);
        }
        tellKind(x, 0, one, oneTime, 7);
        tellKind(x, 1, other, otherTime, otherIndex);
        return x;
    }

    /** Two points at 10, the starts or ends of steps 0 and 1. */
    private static boolean areFaulty(int one, int oneTime, int other, int otherTime, int otherIndex) {
        PlanJudge x = twoKinds(one, oneTime, other, otherTime, otherIndex);
        step(x, 0, oneTime == 0 ? 10 : 4, 6);
        step(x, 1, otherTime == 0 ? 10 : 3, 7);
        boolean faulty = x.judge() == 1;
        check.same("the lower point", faulty ? x.count(1) : 0, faulty && oneTime == 2 ? 1 : 0);
        return faulty;
    }

    private static void interference() {
        check.part("Two points INTERFERE if one of them changes what the other one looks at; or both change ..");
        for (int one = 0; one < KINDS.length; one++) {
            for (int other = 0; other < KINDS.length; other++) {
                for (int times = 0; times < 4; times++) {
                    int oneTime = times & 2;
                    int otherTime = 2 * (times & 1);
                    String what = KINDS[one] + " at " + oneTime + ", " + KINDS[other] + " at " + otherTime;
                    check.same(what, areFaulty(one, oneTime, other, otherTime, 7) ? 1 : 0,
                            interfere(one, oneTime, other, otherTime) ? 1 : 0);
                    check.so(what + " of another one", !areFaulty(one, oneTime, other, otherTime, 6));
                }
            }
        }
    }

    private static long thousandths(PlanJudge x, int what, int s) {
        return 1000 * x.above(what, s) / x.below(what, s);
    }

    /** The starts of steps 0 and 1, then their ends: these or those are at least EPSILON apart if they interfere. */
    private static void arrangedApart(String what, int one, int other, int time) {
        PlanJudge x = twoKinds(one, time, other, time, 7);
        row(x, new int[] {0, 1}, 0, 2, 1, 3);
        if (x.arrange() != 0) {
            return;
        }
        long apart = interfere(one, time, other, time) ? 1 : 0;
        long oneLasts = one == 8 ? 100 : 1;
        check.same(what + ": begin of step 1", thousandths(x, 0, 1), time == 0 ? apart : 0);
        if (time == 2) {
            check.same(what + ": step 1 lasts", thousandths(x, 1, 1), Math.max(other == 8 ? 100 : 1, oneLasts + apart));
        }
    }

    private static void interferenceInARow() {
        check.part("of each two points the later one at least EPSILON later if they interfere");
        for (int one = 0; one < KINDS.length; one++) {
            for (int other = 0; other < KINDS.length; other++) {
                for (int time = 0; time <= 2; time += 2) {
                    arrangedApart(KINDS[one] + " and " + KINDS[other] + " at " + time, one, other, time);
                }
            }
        }
    }

    private static void plainDurationsAndFacts() {
        check.part("a start also at the numbers of its action's durations: at no fact, and at no other number");
        for (int f = 0; f < 16; f++) {
            for (int n = -2; n < 8; n++) {
                PlanJudge x = actions(2);
                x.amount(9, 1);
                x.number(Math.max(0, n));
                x.last(0, 1, n);
                x.make(1, 0, f, true);
                x.change(1, 0, (Math.max(0, n) + 1) % 8, 1);
                step(x, 0, 0, 1);
                step(x, 1, 0, 1);
                check.fault("fact " + f + " and duration by " + n, x, x.judge(), 0, -1);
            }
        }
    }

    private static PlanJudge apart(int epsilonDown, int firstDown, int secondDown, boolean laterIsLower) {
        PlanJudge x = actions(2);
        x.make(0, 0, 0, true);
        x.make(1, 0, 0, false);
        x.amount(1, epsilonDown);
        x.epsilon();
        x.amount(50, 1);
        for (int turn = 0; turn < 2; turn++) {
            boolean later = (turn == 0) == laterIsLower;
            x.moment(1, later ? secondDown : firstDown);
            x.step(later ? 1 : 0);
        }
        return x;
    }

    private static void lessThanEpsilonEarlier() {
        check.part("fault 1: another one that has this time, too, or one that comes less than EPSILON earlier");
        for (int turn = 0; turn < 2; turn++) {
            boolean laterIsLower = turn == 1;
            int later = laterIsLower ? 0 : 2;
            PlanJudge together = apart(1000, 40, 40, laterIsLower);
            check.fault("at this time, too", together, together.judge(), 1, 0);
            PlanJudge nearer = apart(631, 30, 29, laterIsLower);
            check.fault("870 is above 631", nearer, nearer.judge(), 1, later);
            PlanJudge next = apart(869, 30, 29, laterIsLower);
            check.fault("1/870 earlier, EPSILON 1/869", next, next.judge(), 1, later);
            PlanJudge just = apart(870, 30, 29, laterIsLower);
            check.fault("1/870 earlier, EPSILON 1/870", just, just.judge(), 0, -1);
            PlanJudge farther = apart(871, 30, 29, laterIsLower);
            check.fault("1/870 earlier, EPSILON 1/871", farther, farther.judge(), 0, -1);
        }
    }

    /** Steps 0 and 1 end 1/987038973000 apart, or at the same time; their ends interfere. */
    private static void exactTimes() {
        check.part("fault 1: the times are exact fractions");
        int[] earlier = {98343, 997, 99061, 991};
        int[] later = {99037, 1000, 99463, 999};
        int[][][] pairs = {{earlier, later, {3}}, {later, earlier, {1}}, {later, later, {1}}, {earlier, earlier, {1}}};
        for (int[][] pair : pairs) {
            PlanJudge x = actions(2);
            x.make(0, 2, 0, true);
            x.make(1, 2, 0, false);
            for (int s = 0; s < 2; s++) {
                x.moment(pair[s][0], pair[s][1]);
                x.amount(pair[s][2], pair[s][3]);
                x.step(s);
            }
            check.fault("ends of " + pair[0][0] + " and " + pair[1][0], x, x.judge(), 1, pair[2][0]);
        }
    }

    private static void stateSoFar() {
        check.part("fault 2: isn't so in the state so far");
        PlanJudge x = actions(2);
        x.make(0, 0, 0, true);
        x.need(1, 0, 0, true);
        x.amount(3, 1);
        x.epsilon();
        step(x, 0, 5, 9);
        step(x, 1, 8, 9);
        check.fault("made EPSILON earlier", x, x.judge(), 0, -1);
        x.clear();
        step(x, 0, 5, 9);
        step(x, 1, 2, 9);
        check.fault("made EPSILON later", x, x.judge(), 2, 2);
        PlanJudge own = actions(1);
        own.need(0, 0, 4, true);
        own.make(0, 0, 4, true);
        step(own, 0, 0, 1);
        check.fault("made by the point itself", own, own.judge(), 2, 0);
    }

    private static void durationByTheStateSoFar() {
        check.part("fault 3: below the least or above the greatest one, by the state so far");
        for (int which = 0; which <= 1; which++) {
            PlanJudge x = actions(2);
            x.amount(which == 0 ? 4 : 6, 1);
            x.number(0);
            x.amount(1, 1);
            x.last(1, which, 0);
            change(x, 0, 0, 0, 0, 5, 1);
            for (int lasts = 4; lasts <= 6; lasts++) {
                boolean right = which == 0 ? lasts >= 5 : lasts <= 5;
                x.clear();
                step(x, 0, 1, 50);
                step(x, 1, 2, lasts);
                check.fault("number 0 is 5, the step lasts " + lasts, x, x.judge(), right ? 0 : 3, right ? -1 : 2);
                x.clear();
                step(x, 0, 2, 50);
                step(x, 1, 1, lasts);
                check.fault("number 0 is not 5 as yet, the step lasts " + lasts, x, x.judge(), 0, -1);
            }
        }
    }

    /** An action for each factor: number 0 is the first one, and then becomes itself times each of the others. */
    private static PlanJudge product(int[][] factors) {
        PlanJudge x = actions(factors.length);
        for (int i = 0; i < factors.length; i++) {
            x.amount(factors[i][0], factors[i][1]);
            x.change(i, 0, 0, i == 0 ? 0 : 3);
        }
        for (int i = 0; i < factors.length; i++) {
            step(x, i, 2 * i, 1);
        }
        return x;
    }

    /** One action more changes number 0 in this way at its end. */
    private static PlanJudge productThen(int[][] factors, int way, int p, int q) {
        PlanJudge x = product(factors);
        int a = x.action();
        change(x, a, 2, 0, way, p, q);
        step(x, a, 30, 1);
        return x;
    }

    private static void comesTo(String what, PlanJudge x, long up, long down) {
        check.fault(what, x, x.judge(), 0, -1);
        check.fraction(x, 2, 0, up, down);
    }

    private static final int[][] BILLION = {{100000, 1}, {10000, 1}};
    private static final int[][] LESS_BILLION = {{-100000, 1}, {10000, 1}};
    private static final int[][] BILLIONTH = {{1, 1000}, {1, 1000}, {1, 1000}};
    private static final int[][] SEVENTH_OF_MORE = {{1, 981}, {1, 872}, {1, 167}};

    private static void longestNumbers() {
        check.part("TOO LONG: not with a numerator (without sign) or a denominator of 1000000000");
        long most = 1000000000L;
        comesTo("10^9", product(BILLION), most, 1);
        comesTo("-10^9", product(LESS_BILLION), -most, 1);
        comesTo("1/10^9", product(BILLIONTH), 1, most);
        comesTo("-1/10^9", productThen(BILLIONTH, 3, -1, 1), -1, most);
        comesTo("10^9 - 1", productThen(BILLION, 2, 1, 1), most - 1, 1);
        comesTo("-10^9 + 1", productThen(LESS_BILLION, 1, 1, 1), -most + 1, 1);
        comesTo("10^9 + 0", productThen(BILLION, 1, 0, 1), most, 1);
        comesTo("10^9 times -1", productThen(BILLION, 3, -1, 1), -most, 1);
        comesTo("10^9 times 999/1000", productThen(BILLION, 3, 999, 1000), 999000000, 1);
        comesTo("10^9 becomes 7", productThen(BILLION, 0, 7, 1), 7, 1);
        comesTo("10^9 times 0", productThen(BILLION, 3, 0, 1), 0, 1);
        comesTo("1/10^9 + 1/1000", productThen(BILLIONTH, 1, 1, 1000), 1000001, most);
        comesTo("1/10^9 - 1/1000", productThen(BILLIONTH, 2, 1, 1000), -999999, most);
        comesTo("1/10^9 times 1000", productThen(BILLIONTH, 3, 1000, 1), 1, 1000000);
        comesTo("1/142857144", product(SEVENTH_OF_MORE), 1, 142857144);
        comesTo("1/142857144 times 1/6", productThen(SEVENTH_OF_MORE, 3, 1, 6), 1, 857142864);
    }

    /** The state told is the one before. */
    private static void becomesTooLong(String what, PlanJudge x, long up, long down) {
        check.fault(what, x, x.judge(), 4, 2 * x.count(3) - 1);
        check.fraction(x, 2, 0, up, down);
    }

    private static void tooLongNumbers() {
        check.part("TOO LONG: if its numerator (without sign) or its denominator is above 1000000000");
        long most = 1000000000L;
        becomesTooLong("10^9 + 1", productThen(BILLION, 1, 1, 1), most, 1);
        becomesTooLong("10^9 - -1", productThen(BILLION, 2, -1, 1), most, 1);
        becomesTooLong("-10^9 - 1", productThen(LESS_BILLION, 2, 1, 1), -most, 1);
        becomesTooLong("-10^9 + -1", productThen(LESS_BILLION, 1, -1, 1), -most, 1);
        becomesTooLong("10^9 times 1001/1000", productThen(BILLION, 3, 1001, 1000), most, 1);
        becomesTooLong("-10^9 times 1001/1000", productThen(LESS_BILLION, 3, 1001, 1000), -most, 1);
        becomesTooLong("10^9 times -1001/1000", productThen(BILLION, 3, -1001, 1000), most, 1);
        becomesTooLong("10^9 - 1/2", productThen(BILLION, 2, 1, 2), most, 1);
        becomesTooLong("1/142857144 times 1/7", productThen(SEVENTH_OF_MORE, 3, 1, 7), 1, 142857144);
        becomesTooLong("1/10^9 times 1/2", productThen(BILLIONTH, 3, 1, 2), 1, most);
        becomesTooLong("1/10^9 + 1/3", productThen(BILLIONTH, 1, 1, 3), 1, most);
        becomesTooLong("1/10^9 - 1/3", productThen(BILLIONTH, 2, 1, 3), 1, most);
        becomesTooLong("1/10^9 + 1", productThen(BILLIONTH, 1, 1, 1), 1, most);
    }

    private static void tooLongInARow() {
        check.part("TOO LONG: in a row, too, and no such row is sought");
        for (int amount = 9999; amount <= 10001; amount++) {
            for (int sign = -1; sign <= 1; sign += 2) {
                PlanJudge x = actions(1);
                x.amount(100000, 1);
                x.number(7);
                change(x, 0, 2, 7, 3, sign * amount, 1);
                x.make(0, 2, 0, true);
                row(x, new int[] {0}, 0, 1);
                boolean fits = amount <= 10000;
                check.fault("10^5 times " + sign * amount, x, x.arrange(), fits ? 0 : 4, fits ? -1 : 1);
                check.fraction(x, 2, 7, fits ? 100000L * sign * amount : 100000, 1);
                x.wish(0, 1);
                check.same("seek(6)", x.seek(6), fits ? 2 : -1);
            }
        }
    }

    private static void begunByNowAndEndsLater() {
        check.part("fault 5: a step that has begun by now and ends later");
        int[][] dues = {{4, 0}, {5, 5}, {7, 5}, {9, 5}, {10, 0}, {11, 0}};
        for (int[] due : dues) {
            PlanJudge x = actions(2);
            x.need(0, 1, 0, false);
            x.make(1, 0, 0, true);
            x.make(1, 2, 0, false);
            step(x, 0, 5, 5);
            x.amount(1, 2);
            x.moment(due[0], 1);
            x.step(1);
            check.fault("from 5 to 10, broken from " + due[0] + " on for 1/2", x, x.judge(), due[1], due[1] == 0 ? -1 : 0);
        }
        PlanJudge x = actions(1);
        x.need(0, 1, 3, true);
        x.make(0, 2, 3, true);
        step(x, 0, 0, 1);
        check.fault("made by its own end", x, x.judge(), 5, 0);
        PlanJudge y = actions(2);
        y.need(0, 1, 3, true);
        y.make(1, 2, 3, true);
        step(y, 0, 6, 1);
        step(y, 1, 0, 6);
        check.fault("made as it begins", y, y.judge(), 0, -1);
    }

    private static void goalInTheEnd() {
        check.part("fault 6: the goal isn't so in the end");
        for (int goal = 2; goal <= 4; goal++) {
            PlanJudge x = actions(1);
            change(x, 0, 0, 7, 1, 1, 1);
            change(x, 0, 2, 7, 1, 2, 1);
            x.amount(goal, 1);
            x.want(7, 2);
            row(x, new int[] {0}, 0, 1);
            check.fault("judge(), " + goal + " wanted", x, x.judge(), goal == 3 ? 0 : 6, -1);
            check.fault("arrange(), " + goal + " wanted", x, x.arrange(), goal == 3 ? 0 : 6, -1);
            check.fraction(x, 2, 7, 3, 1);
        }
    }

    private static void firstTimeLowestNumberLowestPoint() {
        check.part("The first FAULT: at the first such time the lowest of these numbers, there at the lowest point");
        PlanJudge x = actions(4);
        x.need(0, 0, 0, true);
        bound(x, 1, 0, 5, 1);
        x.need(2, 1, 0, true);
        x.make(3, 0, 1, true);
        x.make(3, 2, 1, false);
        step(x, 0, 3, 1);
        step(x, 2, 2, 9);
        check.fault("5 at 2 ahead of 2 at 3", x, x.judge(), 5, 2);
        x.clear();
        step(x, 1, 3, 1);
        step(x, 0, 3, 1);
        step(x, 0, 3, 2);
        check.fault("2 at the points 2 and 4 ahead of 3 at point 0", x, x.judge(), 2, 2);
        x.clear();
        step(x, 2, 3, 9);
        step(x, 1, 3, 1);
        step(x, 1, 3, 1);
        check.fault("3 at the points 2 and 4 ahead of 5 at point 0", x, x.judge(), 3, 2);
        x.clear();
        step(x, 0, 4, 9);
        step(x, 3, 4, 9);
        step(x, 3, 1, 3);
        check.fault("1 at the points 2 and 5 ahead of 2 at point 0", x, x.judge(), 1, 2);
        x.clear();
        step(x, 3, 1, 3);
        step(x, 2, 2, 9);
        step(x, 2, 2, 9);
        check.fault("5 at the start of the lowest step", x, x.judge(), 5, 2);
    }

    private static PlanJudge marked(int... begins) {
        PlanJudge x = actions(begins.length);
        for (int s = 0; s < begins.length; s++) {
            x.make(s, 0, s, true);
            step(x, s, begins[s], 50);
        }
        return x;
    }

    private static int factsOf(PlanJudge x) {
        int facts = 0;
        for (int f = 0; f < 16; f++) {
            facts |= x.holds(f) ? 1 << f : 0;
        }
        return facts;
    }

    private static void stateOfEachFault() {
        check.part("before a fault 1, 2 or 3, behind a fault 5, before the changes of a fault 4");
        for (int fault = 1; fault <= 6; fault++) {
            PlanJudge x = marked(1, 2, 2, 3);
            switch (fault) {
                case 1 -> {
                    change(x, 1, 0, 0, 0, 1, 1);
                    change(x, 2, 0, 0, 0, 1, 1);
                }
                case 2 -> x.need(2, 0, 9, true);
                case 3 -> bound(x, 2, 0, 51, 1);
                case 4 -> {
                    x.amount(100000, 1);
                    x.number(0);
                    x.change(2, 0, 0, 3);
                }
                case 5 -> x.need(2, 1, 9, true);
                default -> x.wish(9, 1);
            }
            check.fault("fault " + fault, x, x.judge(), fault, fault == 6 ? -1 : fault == 1 ? 2 : 4);
            check.same("facts at fault " + fault, factsOf(x), fault == 6 ? 15 : fault == 5 ? 7 : 1);
            for (int point : new int[] {0, 2, 4, 6, 1, 3, 5, 7}) {
                x.push(point);
            }
            int due = fault == 1 ? 0 : fault == 3 ? 0 : fault;
            check.fault("arrange()", x, x.arrange(), due, due == 0 || due == 6 ? -1 : 4);
            check.same("facts of arrange()", factsOf(x), due == 0 || due == 6 ? 15 : due == 5 ? 7 : 3);
            check.so("step 3 begins at 3 with a fault alone", (x.above(0, 3) == 3 * x.below(0, 3)) == (due != 0));
        }
    }

    private static void oneByOne() {
        check.part("done one by one in their order, as if each had a time of its own");
        PlanJudge x = actions(3);
        x.make(0, 0, 0, true);
        x.need(1, 0, 0, true);
        x.make(1, 0, 0, false);
        x.need(2, 0, 0, false);
        int[] steps = {0, 1, 2};
        row(x, steps, 0, 2, 4, 1, 3, 5);
        check.fault("each by the one before", x, x.arrange(), 0, -1);
        row(x, steps, 2, 0, 4, 1, 3, 5);
        check.fault("the first point's", x, x.arrange(), 2, 2);
        row(x, steps, 0, 4, 2, 1, 3, 5);
        check.fault("the second point's", x, x.arrange(), 2, 4);
        x.need(2, 2, 5, true);
        row(x, steps, 0, 2, 4, 1, 3, 5);
        check.fault("the last point's", x, x.arrange(), 2, 5);
    }

    private static void faultsOfOnePoint() {
        check.part("the first fault 2, 4, 5 or 6 that there is");
        PlanJudge x = actions(2);
        x.need(1, 0, 0, true);
        x.amount(100000, 1);
        x.number(0);
        x.change(1, 0, 0, 3);
        x.need(1, 1, 1, true);
        x.wish(2, 1);
        row(x, new int[] {0, 1}, 0, 2, 1, 3);
        check.fault("2 ahead of 4", x, x.arrange(), 2, 2);
        x.fact(0, true);
        check.fault("4 ahead of 5", x, x.arrange(), 4, 2);
        x.amount(1, 1);
        x.number(0);
        check.fault("5 ahead of 6", x, x.arrange(), 5, 2);
        x.fact(1, true);
        check.fault("6", x, x.arrange(), 6, -1);
        x.fact(2, true);
        check.fault("none", x, x.arrange(), 0, -1);
        x.fact(1, false);
        x.need(0, 2, 9, true);
        row(x, new int[] {0, 1}, 0, 2, 1, 3);
        check.fault("5 at the second point ahead of 2 at the third one", x, x.arrange(), 5, 2);
        row(x, new int[] {0, 1}, 0, 1, 2, 3);
        check.fault("2 at the second point ahead of 5 at the third one", x, x.arrange(), 2, 1);
    }

    private static void begunAndNotEnded() {
        check.part("behind each point: 5 for all steps that have begun and not ended in the row");
        PlanJudge x = actions(2);
        x.need(0, 1, 0, false);
        x.make(1, 0, 0, true);
        x.make(1, 2, 0, false);
        int[] steps = {0, 0, 1};
        row(x, steps, 4, 5, 0, 2, 1, 3);
        check.fault("broken before", x, x.arrange(), 0, -1);
        row(x, steps, 0, 2, 3, 1, 4, 5);
        check.fault("broken behind", x, x.arrange(), 0, -1);
        row(x, steps, 0, 2, 4, 5, 3, 1);
        check.fault("broken within both", x, x.arrange(), 5, 0);
        row(x, steps, 2, 0, 1, 4, 5, 3);
        check.fault("broken within step 1", x, x.arrange(), 5, 2);
        row(x, steps, 4, 2, 5, 0, 1, 3);
        check.fault("broken as step 1 begins", x, x.arrange(), 5, 2);
        check.so("the state behind", x.holds(0));
        row(x, steps, 2, 4, 3, 5, 0, 1);
        check.fault("broken until step 1 has ended", x, x.arrange(), 5, 2);
    }

    private static void boundsAhead() {
        check.part("BOUNDS are each step's least and greatest duration by the state ahead of its start");
        PlanJudge x = actions(2);
        x.amount(3, 1);
        x.number(5);
        x.amount(1, 1);
        x.last(0, 0, 5);
        x.last(0, 1, 5);
        change(x, 0, 0, 5, 0, 7, 1);
        change(x, 1, 0, 5, 0, 9, 1);
        row(x, new int[] {0, 1, 0}, 0, 1, 2, 3, 4, 5);
        check.fault("arrange()", x, x.arrange(), 0, -1);
        check.fraction(x, 1, 0, 3, 1);
        check.fraction(x, 1, 2, 9, 1);
        row(x, new int[] {1, 0, 0}, 2, 4, 0, 1, 3, 5);
        check.fault("arrange() with the change behind the starts", x, x.arrange(), 0, -1);
        check.fraction(x, 1, 1, 3, 1);
        check.fraction(x, 1, 2, 7, 1);
    }

    private static void leastIsEpsilonAtLeast() {
        check.part("a least one is EPSILON at least, also if there is none");
        int[][] told = {{-1, 1}, {0, 1}, {1, 8}, {1, 7}, {1, 6}};
        for (int i = -1; i < told.length; i++) {
            PlanJudge x = actions(1);
            x.amount(1, 7);
            x.epsilon();
            if (i >= 0) {
                bound(x, 0, 0, told[i][0], told[i][1]);
            }
            row(x, new int[] {0}, 0, 1);
            check.fault("arrange()", x, x.arrange(), 0, -1);
            check.fraction(x, 1, 0, 1, i == 4 ? 6 : 7);
            for (int down = 6; down <= 8; down++) {
                bound(x, 0, 1, 1, down);
                boolean fits = down <= (i == 4 ? 6 : 7);
                check.fault("least " + i + ", greatest 1/" + down, x, x.arrange(), fits ? 0 : 7, -1);
            }
        }
    }

    private static void tenThousand() {
        check.part("fault 8: if one of them or EPSILON is above 10000");
        for (int which = 0; which <= 1; which++) {
            PlanJudge x = actions(1);
            x.amount(1, 1);
            x.epsilon();
            x.amount(52579, 100);
            x.number(0);
            row(x, new int[] {0}, 0, 1);
            for (int p : new int[] {19018, 19019}) {
                x.amount(p, 1000);
                x.last(0, which, 0);
                check.fault("which " + which + ": " + p + " times 52579 over 100000", x, x.arrange(), p == 19019 ? 8 : 0, -1);
            }
            for (int p : new int[] {9999, 10000, 10001, 100000}) {
                bound(x, 0, which, p, 1);
                check.fault("which " + which + ": " + p, x, x.arrange(), p > 10000 ? 8 : 0, -1);
            }
        }
        for (int steps = 0; steps <= 1; steps++) {
            PlanJudge x = actions(1);
            row(x, new int[steps]);
            for (int point = 0; point < 2 * steps; point++) {
                x.push(point);
            }
            for (int[] epsilon : new int[][] {{9999, 1}, {10000, 1}, {10001, 1}, {90001, 9}, {100000, 1}, {89999, 9}}) {
                x.amount(epsilon[0], epsilon[1]);
                x.epsilon();
                boolean fits = epsilon[0] <= 10000 * epsilon[1];
                check.fault("EPSILON " + epsilon[0] + "/" + epsilon[1], x, x.arrange(), fits ? 0 : 8, -1);
            }
        }
    }

    /** EPSILON is 1 / first, the greatest duration 1 / second, which is more. */
    private static int faultOfDenominators(int first, int second, int numberDown) {
        PlanJudge x = actions(1);
        x.amount(1, first);
        x.epsilon();
        x.amount(1, numberDown);
        x.number(0);
        x.amount(1, second);
        x.last(0, 1, 0);
        row(x, new int[] {0}, 0, 1);
        return x.arrange();
    }

    private static void hundredThousand() {
        check.part("fault 8: or the least common multiple of their denominators is above 100000");
        check.same("369 and 271: 99999", faultOfDenominators(369, 271, 1), 0);
        check.same("885 and 113: 100005", faultOfDenominators(885, 113, 1), 8);
        check.same("1000 and 999: 999000", faultOfDenominators(1000, 999, 1), 8);
        check.same("1000 and 960: 24000", faultOfDenominators(1000, 960, 1), 0);
        check.same("1000 and 1000", faultOfDenominators(1000, 1000, 1), 0);
        PlanJudge x = actions(3);
        bound(x, 0, 0, 1, 32);
        x.amount(1, 625);
        x.number(3);
        x.amount(4, 5);
        x.last(1, 0, 3);
        row(x, new int[] {0, 1}, 0, 1, 2, 3);
        check.fault("1000, 32 and 3125: 100000", x, x.arrange(), 0, -1);
        check.fraction(x, 0, 1, 1, 32);
        check.fraction(x, 1, 1, 4, 3125);
        bound(x, 2, 1, 7, 3);
        check.fault("of an action that isn't done", x, x.arrange(), 0, -1);
        row(x, new int[] {0, 1, 2}, 0, 1, 2, 3, 4, 5);
        check.fault("and 3: 300000", x, x.arrange(), 8, -1);
        bound(x, 2, 1, 7, 50);
        check.fault("and 50: 100000", x, x.arrange(), 0, -1);
        PlanJudge y = actions(1);
        bound(y, 0, 0, 1, 999);
        row(y, new int[] {0}, 0, 1);
        check.fault("1000 and 999", y, y.arrange(), 8, -1);
        y.amount(1, 998);
        y.epsilon();
        check.fault("a least one below EPSILON isn't one of them", y, y.arrange(), 0, -1);
        check.fraction(y, 1, 0, 1, 998);
    }

    private static void notEarlierAndEpsilonLater() {
        check.part("the first point at 0 or later; the later one not earlier, and at least EPSILON later if they interfere");
        PlanJudge x = actions(2);
        x.amount(1, 3);
        x.epsilon();
        x.make(0, 0, 0, true);
        x.make(1, 0, 0, true);
        row(x, new int[] {0, 1}, 2, 0, 1, 3);
        check.fault("arrange()", x, x.arrange(), 0, -1);
        check.fraction(x, 0, 1, 0, 1);
        check.fraction(x, 0, 0, 0, 1);
        check.fraction(x, 1, 0, 1, 3);
        check.fraction(x, 1, 1, 1, 3);
        x.need(0, 0, 0, true);
        check.fault("arrange()", x, x.arrange(), 0, -1);
        check.fraction(x, 0, 1, 0, 1);
        check.fraction(x, 0, 0, 1, 3);
        check.fraction(x, 1, 0, 1, 3);
        check.fraction(x, 1, 1, 2, 3);
        check.same("judge()", x.judge(), 0);
        PlanJudge y = actions(2);
        y.make(0, 0, 0, true);
        y.make(0, 2, 0, false);
        row(y, new int[] {0, 1, 1, 0}, 0, 2, 1, 4, 6, 3, 5, 7);
        check.fault("arrange() with points between those that interfere", y, y.arrange(), 0, -1);
        check.fraction(y, 0, 1, 0, 1);
        check.fraction(y, 0, 2, 1, 1000);
        check.fraction(y, 0, 3, 1, 500);
    }

    private static void withinTheBounds() {
        check.part("each end behind its start by a duration within the bounds: the earliest times");
        PlanJudge x = actions(3);
        bound(x, 0, 0, 5, 1);
        bound(x, 1, 1, 2, 1);
        bound(x, 2, 0, 3, 1);
        bound(x, 2, 1, 3, 1);
        row(x, new int[] {0, 1}, 0, 2, 1, 3);
        check.fault("the greatest one delays the start", x, x.arrange(), 0, -1);
        check.fraction(x, 0, 1, 3, 1);
        check.fraction(x, 1, 1, 2, 1);
        check.fraction(x, 1, 0, 5, 1);
        row(x, new int[] {0, 2}, 0, 2, 3, 1);
        check.fault("both bounds alike", x, x.arrange(), 0, -1);
        check.fraction(x, 0, 1, 0, 1);
        check.fraction(x, 1, 1, 3, 1);
        row(x, new int[] {0, 2}, 2, 0, 3, 1);
        check.fault("both bounds alike, begun before", x, x.arrange(), 0, -1);
        check.fraction(x, 0, 0, 0, 1);
        check.fraction(x, 1, 1, 3, 1);
        row(x, new int[] {1, 2, 0}, 4, 0, 2, 1, 3, 5);
        check.fault("a chain", x, x.arrange(), 0, -1);
        check.fraction(x, 0, 0, 0, 1);
        check.fraction(x, 0, 1, 0, 1);
        check.fraction(x, 1, 0, 1, 1000);
        check.fraction(x, 1, 2, 5, 1);
    }

    private static void noTimes() {
        check.part("fault 7: if there are none");
        for (int greatest = 4; greatest <= 6; greatest++) {
            PlanJudge x = actions(2);
            bound(x, 0, 1, greatest, 1);
            bound(x, 1, 0, 5, 1);
            row(x, new int[] {0, 1}, 0, 2, 3, 1);
            check.fault("5 within " + greatest, x, x.arrange(), greatest < 5 ? 7 : 0, -1);
            check.fraction(x, 1, 0, greatest < 5 ? 1 : 5, 1);
            row(x, new int[] {0, 1}, 2, 0, 3, 1);
            check.fault("overlapping by up to " + greatest, x, x.arrange(), 0, -1);
            check.fraction(x, 0, 0, Math.max(0, 5 - greatest), 1);
        }
        for (int thousandths = 5001; thousandths <= 5003; thousandths++) {
            PlanJudge x = actions(2);
            x.make(0, 0, 0, true);
            x.make(0, 2, 0, true);
            x.make(1, 0, 0, false);
            x.make(1, 2, 0, false);
            bound(x, 0, 1, thousandths, 1000);
            bound(x, 1, 0, 5, 1);
            row(x, new int[] {0, 1}, 0, 2, 3, 1);
            check.fault("5 and twice EPSILON within " + thousandths, x, x.arrange(), thousandths < 5002 ? 7 : 0, -1);
            if (thousandths >= 5002) {
                check.fraction(x, 0, 1, 1, 1000);
                check.fraction(x, 1, 0, 2501, 500);
            }
        }
    }

    /** In units of 1/100000 such a bound is below what a long can hold. */
    private static void farBelowNought() {
        check.part("fault 7: a greatest duration of -10^14, in the finest unit");
        PlanJudge x = actions(3);
        x.amount(-100000, 1);
        x.number(0);
        change(x, 0, 0, 0, 3, 10000, 1);
        bound(x, 0, 0, 1, 32);
        x.amount(1, 625);
        x.number(3);
        x.amount(4, 5);
        x.last(1, 0, 3);
        row(x, new int[] {0, 1, 2}, 0, 1, 2, 3, 4, 5);
        check.fault("no greatest one", x, x.arrange(), 0, -1);
        for (int p : new int[] {100000, 99999, 50000, 1}) {
            x.amount(p, 1);
            x.last(2, 1, 0);
            check.fault("-10^9 times " + p, x, x.arrange(), 7, -1);
            x.amount(-p, 1);
            x.last(2, 1, 0);
            check.fault("-10^9 times " + -p, x, x.arrange(), 8, -1);
            x.amount(-p, 1);
            x.last(2, 1, -2);
            x.last(2, 0, 0);
            check.fault("a least one of -10^9 times " + -p, x, x.arrange(), 8, -1);
            x.amount(p, 1);
            x.last(2, 0, 0);
            check.fault("a least one of -10^9 times " + p, x, x.arrange(), 0, -1);
            x.last(2, 0, -2);
        }
    }

    private static void atMostSoManyEvents() {
        check.part("promise 21: at most so many events (0 .. 6): how many it has; -1 if there is none");
        for (int steps = 0; steps <= 4; steps++) {
            for (int most = 0; most <= 6; most++) {
                PlanJudge x = actions(1);
                change(x, 0, 2, 0, 1, 1, 1);
                x.amount(steps, 1);
                x.want(0, 3);
                check.same("seek(" + most + ") of " + steps + " steps", x.seek(most), 2 * steps <= most ? 2 * steps : -1);
                check.same("steps", x.count(3), 2 * steps <= most ? steps : 0);
                check.same("points", x.count(4), 2 * steps <= most ? 2 * steps : 0);
            }
        }
        PlanJudge none = new PlanJudge();
        check.same("seek(0) without actions", none.seek(0), 0);
        none.wish(15, 1);
        check.same("seek(0) without actions", none.seek(0), -1);
        check.same("seek(6) without actions", none.seek(6), -1);
    }

    private static void fewestEvents() {
        check.part("promise 21: that with the fewest events");
        PlanJudge x = actions(12);
        x.make(0, 2, 0, true);
        x.need(1, 0, 0, true);
        x.make(1, 2, 1, true);
        x.make(11, 2, 1, true);
        x.wish(1, 1);
        check.same("seek(6)", x.seek(6), 2);
        check.same("done(0)", x.done(0), 11);
        x.need(11, 0, 2, true);
        check.same("seek(6)", x.seek(6), 4);
        check.same("done(0)", x.done(0), 0);
        check.same("done(1)", x.done(1), 1);
        x.fact(1, true);
        check.same("seek(6)", x.seek(6), 0);
        check.same("steps", x.count(3), 0);
    }

    private static void rowIs(PlanJudge x, int... points) {
        check.same("points", x.count(4), points.length);
        for (int k = 0; k < points.length; k++) {
            check.same("at(" + k + ")", x.at(k), points[k]);
        }
    }

    private static void eventByEvent() {
        check.part("promise 21: of these the first one, event by event");
        for (int first = 0; first < 12; first++) {
            PlanJudge x = actions(12);
            for (int a = first; a < 12; a++) {
                x.make(a, a % 2 == 0 ? 0 : 2, 0, true);
            }
            x.wish(0, 1);
            check.same("seek(2)", x.seek(2), 2);
            check.same("done(0)", x.done(0), first);
        }
        PlanJudge x = actions(2);
        x.make(0, 0, 0, true);
        x.make(1, 0, 1, true);
        x.wish(0, 1);
        x.wish(1, 1);
        check.same("seek(6)", x.seek(6), 4);
        rowIs(x, 0, 2, 1, 3);
        x.need(0, 2, 2, true);
        x.make(1, 2, 2, true);
        check.same("seek(6): step 0 can't end first", x.seek(6), 4);
        rowIs(x, 0, 2, 3, 1);
        check.same("done(0)", x.done(0), 0);
        x.need(1, 0, 0, false);
        check.same("seek(6): action 1 must begin first", x.seek(6), 4);
        rowIs(x, 0, 2, 1, 3);
        check.same("done(0)", x.done(0), 1);
        x.need(0, 0, 2, true);
        check.same("seek(6): and end before the other one begins", x.seek(6), 4);
        rowIs(x, 0, 1, 2, 3);
        check.same("done(1)", x.done(1), 0);
    }

    private static void soughtInOrderOfBeginning() {
        check.part("promise 21: steps have numbers in the order in which they begin; each step that begins ending, too");
        PlanJudge x = actions(3);
        x.make(2, 0, 0, true);
        x.need(1, 0, 0, true);
        x.make(1, 0, 1, true);
        x.need(0, 0, 1, true);
        x.make(0, 0, 2, true);
        x.wish(2, 1);
        check.same("seek(5)", x.seek(5), -1);
        check.same("seek(6)", x.seek(6), 6);
        rowIs(x, 0, 2, 4, 1, 3, 5);
        for (int s = 0; s < 3; s++) {
            check.same("done(" + s + ")", x.done(s), 2 - s);
        }
        x.need(0, 2, 5, true);
        check.same("seek(6) with a step that can't end", x.seek(6), -1);
    }

    private static void soughtAndArranged() {
        check.part("promise 21: it becomes the row, and its steps, arranged, the plan");
        PlanJudge x = actions(2);
        bound(x, 0, 0, 7, 2);
        x.make(0, 2, 0, true);
        x.need(1, 0, 0, true);
        x.make(1, 0, 1, true);
        bound(x, 1, 0, 1, 6);
        x.wish(1, 1);
        for (int s = 0; s < 12; s++) {
            step(x, 1, s, 50);
            x.push(2 * s);
            x.push(2 * s + 1);
        }
        check.same("seek(6)", x.seek(6), 4);
        check.same("steps", x.count(3), 2);
        rowIs(x, 0, 1, 2, 3);
        check.same("done(0)", x.done(0), 0);
        check.fraction(x, 0, 0, 0, 1);
        check.fraction(x, 1, 0, 7, 2);
        check.fraction(x, 0, 1, 3501, 1000);
        check.fraction(x, 1, 1, 1, 6);
        check.same("judge()", x.judge(), 0);
        check.same("arrange()", x.arrange(), 0);
        check.same("step(0) behind them", x.step(0), 2);
    }

    private static void planAndRowStay() {
        check.part("promise 21: -1 if there is none (plan and row stay)");
        PlanJudge x = actions(2);
        x.wish(0, 1);
        step(x, 1, 8, 3);
        step(x, 0, 9, 4);
        x.push(2);
        x.push(0);
        for (int most = 0; most <= 6; most++) {
            check.same("seek(" + most + ")", x.seek(most), -1);
            rowIs(x, 2, 0);
            check.same("steps", x.count(3), 2);
            check.same("done(0)", x.done(0), 1);
            check.fraction(x, 0, 0, 8, 1);
            check.fraction(x, 1, 0, 3, 1);
            check.fraction(x, 0, 1, 9, 1);
            check.fraction(x, 1, 1, 4, 1);
        }
        check.throwsState("push(2)", () -> x.push(2));
        check.throwsNothing("push(3)", () -> x.push(3));
    }
}
