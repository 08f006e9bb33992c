import java.util.ArrayList;
import java.util.Arrays;

/** A judge and a maker of timed plans. The numbered promises stand in the document DOC.md. */
public final class PlanJudge {
    private static final int FACTS = 16;
    private static final int NUMBERS = 8;
    private static final int MOST_ACTIONS = 12;
    private static final int MOST_STEPS = 12;
    private static final int MOST_POINTS = 24;
    private static final int MOST_NEEDS = 8;
    private static final int MOST_CHANGES = 6;
    private static final int MOST_EVENTS = 6;
    private static final int FIRST_ENDING = 12;
    private static final int MOST_UP = 100000;
    private static final int MOST_DOWN = 1000;
    private static final long LONGEST = 1000000000L;
    private static final long WIDEST_BOUND = 10000L;
    private static final long FINEST_UNIT = 100000L;

    private static final int AMOUNT = 0;
    private static final int MOMENT = 1;

    private static final int START = 0;
    private static final int ALL_OVER = 1;
    private static final int END = 2;
    private static final int TIMES = 3;

    private static final int BELOW = 0;
    private static final int NOT_ABOVE = 1;
    private static final int EQUAL = 2;
    private static final int NOT_BELOW = 3;
    private static final int ABOVE = 4;

    private static final int BECOMES = 0;
    private static final int GROWS = 1;
    private static final int SHRINKS = 2;
    private static final int MULTIPLIES = 3;

    private static final int LEAST = 0;
    private static final int GREATEST = 1;
    private static final int PLAIN = -1;
    private static final int UNBOUNDED = -2;

    private static final int NONE = -1;

    private static final int FINE = 0;
    private static final int INTERFERENCE = 1;
    private static final int NEED_UNMET = 2;
    private static final int WRONG_DURATION = 3;
    private static final int TOO_LONG = 4;
    private static final int ALL_OVER_UNMET = 5;
    private static final int GOAL_UNMET = 6;
    private static final int NO_TIMES = 7;
    private static final int BOUNDS_UNFIT = 8;

    /** Far above the some ninety divisions that Euclid's way needs for two longs. */
    private static final int EUCLID_ROUNDS = 200;

    private final Fractions hand;
    private final Task task;
    private final Plan plan;
    private final Verdict verdict;
    private final Judge bench;
    private final Arranger arranger;

    public PlanJudge() {
        hand = new Fractions(2);
        task = new Task();
        plan = new Plan();
        verdict = new Verdict();
        bench = new Judge();
        arranger = new Arranger();
    }

    public void amount(int p, int q) throws IllegalArgumentException {
        takeInHand(AMOUNT, p, q);
    }

    public void moment(int p, int q) throws IllegalArgumentException {
        takeInHand(MOMENT, p, q);
    }

    public void epsilon() throws IllegalArgumentException {
        if (hand.up[AMOUNT] <= 0) {
            throw new IllegalArgumentException();
        }
        task.epsilon.copy(0, hand, AMOUNT);
    }

    public void fact(int f, boolean v) throws IndexOutOfBoundsException {
        checkIndex(f, FACTS);
        int others = task.first.facts & ~factBit(f);
        task.first.facts = v ? others | factBit(f) : others;
    }

    public void number(int n) throws IndexOutOfBoundsException {
        checkIndex(n, NUMBERS);
        task.first.numbers.copy(n, hand, AMOUNT);
    }

    public void wish(int f, int v) throws IndexOutOfBoundsException, IllegalArgumentException {
        checkIndex(f, FACTS);
        checkChoice(v, NONE, 1);
        task.wishFact(f, v);
    }

    public void want(int n, int how) throws IndexOutOfBoundsException, IllegalArgumentException {
        checkIndex(n, NUMBERS);
        checkChoice(how, NONE, ABOVE);
        task.goalHow[n] = how;
        task.goalWith.copy(n, hand, AMOUNT);
    }

    public int action() throws IllegalStateException {
        checkRoom(task.actions.size(), MOST_ACTIONS);
        task.actions.add(new Action());
        return task.actions.size() - 1;
    }

    public void need(int a, int time, int f, boolean v)
            throws IndexOutOfBoundsException, IllegalArgumentException, IllegalStateException {
        checkIndex(a, task.actions.size());
        checkIndex(f, FACTS);
        checkChoice(time, START, END);
        Action told = task.actions.get(a);
        checkRoom(told.needs, MOST_NEEDS);
        told.needFact(time, f, v);
    }

    public void compare(int a, int time, int n, int how)
            throws IndexOutOfBoundsException, IllegalArgumentException, IllegalStateException {
        checkIndex(a, task.actions.size());
        checkIndex(n, NUMBERS);
        checkChoice(time, START, END);
        checkChoice(how, BELOW, ABOVE);
        Action told = task.actions.get(a);
        checkRoom(told.needs, MOST_NEEDS);
        told.needNumber(time, n, how, hand);
    }

    public void make(int a, int time, int f, boolean v)
            throws IndexOutOfBoundsException, IllegalArgumentException, IllegalStateException {
        checkIndex(a, task.actions.size());
        checkIndex(f, FACTS);
        checkTimeOfChange(time);
        Action told = task.actions.get(a);
        checkNewChange(told, time, factBit(f));
        told.changeFact(time, f, v);
    }

    public void change(int a, int time, int n, int way)
            throws IndexOutOfBoundsException, IllegalArgumentException, IllegalStateException {
        checkIndex(a, task.actions.size());
        checkIndex(n, NUMBERS);
        checkTimeOfChange(time);
        checkChoice(way, BECOMES, MULTIPLIES);
        Action told = task.actions.get(a);
        checkNewChange(told, time, numberBit(n));
        told.changeNumber(time, n, way, hand);
    }

    public void last(int a, int which, int n) throws IndexOutOfBoundsException, IllegalArgumentException {
        checkIndex(a, task.actions.size());
        if (n != PLAIN && n != UNBOUNDED) {
            checkIndex(n, NUMBERS);
        }
        checkChoice(which, LEAST, GREATEST);
        task.actions.get(a).boundDuration(which, n, hand);
    }

    public int step(int a) throws IndexOutOfBoundsException, IllegalArgumentException, IllegalStateException {
        checkIndex(a, task.actions.size());
        if (hand.up[MOMENT] < 0 || hand.up[AMOUNT] <= 0) {
            throw new IllegalArgumentException();
        }
        checkRoom(plan.steps, MOST_STEPS);
        plan.begins.copy(plan.steps, hand, MOMENT);
        plan.lasts.copy(plan.steps, hand, AMOUNT);
        return plan.addStep(a);
    }

    public void clear() {
        plan.empty();
    }

    public int judge() {
        int fault = bench.findFault(task, plan);
        verdict.write(fault, bench.faultPoint, bench.now);
        return fault;
    }

    public void push(int point) throws IndexOutOfBoundsException, IllegalStateException {
        checkIndex(point, 2 * plan.steps);
        if (plan.isInRow(point) || isEnd(point) && !plan.isInRow(point - 1)) {
            throw new IllegalStateException();
        }
        plan.addToRow(point);
    }

    public int pop() {
        return plan.points == 0 ? NONE : plan.dropLastPoint();
    }

    public int arrange() throws IllegalStateException {
        if (plan.points < 2 * plan.steps) {
            throw new IllegalStateException();
        }
        int fault = arranger.findFault(task, plan);
        if (fault == FINE) {
            arranger.tellTimes(plan);
        }
        verdict.write(fault, arranger.faultPoint, arranger.reached(fault));
        return fault;
    }

    public int seek(int most) throws IllegalArgumentException {
        checkChoice(most, 0, MOST_EVENTS);
        for (int events = 0; events <= most; events += 2) {
            arranger.beginAt(task.first);
            if (completes(task, arranger, events)) {
                arranger.tellRow(plan);
                arranger.tellTimes(plan);
                return events;
            }
        }
        return NONE;
    }

    public int count(int what) throws IndexOutOfBoundsException {
        switch (what) {
            case 0:
                return verdict.fault;
            case 1:
                return verdict.point;
            case 2:
                return task.actions.size();
            case 3:
                return plan.steps;
            case 4:
                return plan.points;
            default:
                throw new IndexOutOfBoundsException();
        }
    }

    public int done(int s) throws IndexOutOfBoundsException {
        checkIndex(s, plan.steps);
        return plan.actionOf[s];
    }

    public int at(int k) {
        return k < 0 || k >= plan.points ? NONE : plan.row[k];
    }

    public long above(int what, int i) throws IllegalArgumentException, IndexOutOfBoundsException {
        return rowAskedFor(what, i).up[i];
    }

    public long below(int what, int i) throws IllegalArgumentException, IndexOutOfBoundsException {
        return rowAskedFor(what, i).down[i];
    }

    public boolean holds(int f) throws IndexOutOfBoundsException {
        checkIndex(f, FACTS);
        return (latestState().facts & factBit(f)) != 0;
    }

    private void takeInHand(int which, int p, int q) {
        checkChoice(p, -MOST_UP, MOST_UP);
        checkChoice(q, 1, MOST_DOWN);
        hand.put(which, p, q);
    }

    private Fractions rowAskedFor(int what, int i) {
        checkChoice(what, 0, 2);
        checkIndex(i, what == 2 ? NUMBERS : plan.steps);
        if (what == 2) {
            return latestState().numbers;
        }
        return what == 0 ? plan.begins : plan.lasts;
    }

    private State latestState() {
        return verdict.isWritten ? verdict.state : task.first;
    }

    /** Whether so many events more, each begun step ending, lead to a row without a fault: the first such row stays. */
    private static boolean completes(Task task, Arranger row, int events) {
        if (events <= 0) {
            return row.findLateFault(task) == FINE;
        }
        int begun = row.begunSteps;
        boolean mayBegin = row.openSteps() + 2 <= events;
        for (int event = mayBegin ? 0 : FIRST_ENDING; event < FIRST_ENDING + begun; event++) {
            boolean begins = event < FIRST_ENDING;
            int step = begins ? begun : event - FIRST_ENDING;
            if (begins ? event < task.actions.size() : row.isOpen(step)) {
                int point = begins ? 2 * step : 2 * step + 1;
                int done = begins ? event : row.actionOf[step];
                if (row.addPoint(task, point, done) == FINE) {
                    if (completes(task, row, events - 1)) {
                        return true;
                    }
                    row.takePointBack();
                }
            }
        }
        return false;
    }

    private static void checkIndex(int i, int size) {
        if (i < 0 || i >= size) {
            throw new IndexOutOfBoundsException();
        }
    }

    private static void checkChoice(int i, int lowest, int highest) {
        if (i < lowest || i > highest) {
            throw new IllegalArgumentException();
        }
    }

    private static void checkTimeOfChange(int time) {
        if (time != START && time != END) {
            throw new IllegalArgumentException();
        }
    }

    private static void checkRoom(int used, int most) {
        if (used >= most) {
            throw new IllegalStateException();
        }
    }

    private static void checkNewChange(Action told, int time, int bit) {
        checkRoom(told.changes, MOST_CHANGES);
        if ((told.changed[time] & bit) != 0) {
            throw new IllegalStateException();
        }
    }

    private static boolean isEnd(int point) {
        return (point & 1) != 0;
    }

    private static int timeOf(int point) {
        return isEnd(point) ? END : START;
    }

    private static int factBit(int f) {
        return 1 << f;
    }

    /** The bits of numbers stand above those of facts, so that one mask holds both. */
    private static int numberBit(int n) {
        return 1 << (FACTS + n);
    }

    /** A row of fractions in lowest terms, each denominator above 0. */
    private static final class Fractions {
        private final long[] up;
        private final long[] down;

        Fractions(int size) {
            up = new long[size];
            down = new long[size];
            Arrays.fill(down, 1L);
        }

        void put(int i, long p, long q) {
            long divisor = q;
            long rest = p < 0 ? -p : p;
            for (int k = 0; k < EUCLID_ROUNDS && rest != 0; k++) {
                long next = divisor % rest;
                divisor = rest;
                rest = next;
            }
            up[i] = divisor > 1 ? p / divisor : p;
            down[i] = divisor > 1 ? q / divisor : q;
        }

        void copy(int i, Fractions from, int j) {
            up[i] = from.up[j];
            down[i] = from.down[j];
        }

        void copyAll(Fractions from) {
            System.arraycopy(from.up, 0, up, 0, up.length);
            System.arraycopy(from.down, 0, down, 0, down.length);
        }

        /**
         * No product or sum leaves a long: numbers have parts of at most 10^9, what is told has at most
         * 10^5 over 10^3, and times stay below 10^6 with denominators of at most 10^6.
         */
        void alter(int i, int way, Fractions by, int j) {
            switch (way) {
                case BECOMES:
                    copy(i, by, j);
                    break;
                case GROWS:
                    put(i, up[i] * by.down[j] + by.up[j] * down[i], down[i] * by.down[j]);
                    break;
                case SHRINKS:
                    put(i, up[i] * by.down[j] - by.up[j] * down[i], down[i] * by.down[j]);
                    break;
                default:
                    put(i, up[i] * by.up[j], down[i] * by.down[j]);
                    break;
            }
        }

        boolean isTooLong(int i) {
            return up[i] > LONGEST || up[i] < -LONGEST || down[i] > LONGEST;
        }

        boolean isAbove(int i, long whole) {
            return up[i] > whole * down[i];
        }

        boolean isSo(int i, int how, Fractions with, int j) {
            int order = orderTo(i, with, j);
            switch (how) {
                case BELOW:
                    return order < 0;
                case NOT_ABOVE:
                    return order <= 0;
                case EQUAL:
                    return order == 0;
                case NOT_BELOW:
                    return order >= 0;
                default:
                    return order > 0;
            }
        }

        /** By whole parts, then by those of what is left, turned over: crosswise products could leave a long. */
        int orderTo(int i, Fractions other, int j) {
            long a = up[i];
            long b = down[i];
            long c = other.up[j];
            long d = other.down[j];
            int sign = 1;
            for (int k = 0; k < EUCLID_ROUNDS && b > 0 && d > 0; k++) {
                long x = Math.floorDiv(a, b);
                long y = Math.floorDiv(c, d);
                if (x != y) {
                    return x < y ? -sign : sign;
                }
                long firstRest = a - x * b;
                long secondRest = c - y * d;
                if (firstRest == 0 || secondRest == 0) {
                    return firstRest == secondRest ? 0 : firstRest == 0 ? -sign : sign;
                }
                a = b;
                b = firstRest;
                c = d;
                d = secondRest;
                sign = -sign;
            }
            return 0;
        }
    }

    private static final class State {
        private int facts;
        private final Fractions numbers = new Fractions(NUMBERS);

        void copyFrom(State other) {
            facts = other.facts;
            numbers.copyAll(other.numbers);
        }

        boolean hasFacts(int wantedTrue, int wantedFalse) {
            return (facts & wantedTrue) == wantedTrue && (facts & wantedFalse) == 0;
        }
    }

    /** What an action was told of numbers, in turn: its comparisons, or its changes. */
    private static final class Terms {
        private int size;
        private final int[] time;
        private final int[] number;
        private final int[] kind;
        private final Fractions by;

        Terms(int most) {
            time = new int[most];
            number = new int[most];
            kind = new int[most];
            by = new Fractions(most);
        }

        void tell(int when, int n, int how, Fractions hand) {
            if (size < time.length) {
                time[size] = when;
                number[size] = n;
                kind[size] = how;
                by.copy(size, hand, AMOUNT);
                size++;
            }
        }
    }

    /** The masks, by time, answer at one stroke what the needs and changes say one by one. */
    private static final class Action {
        private int needs;
        private int changes;
        private final int[] needTrue = new int[TIMES];
        private final int[] needFalse = new int[TIMES];
        private final Terms comparisons = new Terms(MOST_NEEDS);
        private final int[] makeTrue = new int[TIMES];
        private final int[] makeFalse = new int[TIMES];
        private final Terms alterations = new Terms(MOST_CHANGES);
        private final int[] changed = new int[TIMES];
        private final int[] seenAt = new int[TIMES];
        private int measured;
        private final int[] durationNumber = new int[2];
        private final Fractions duration = new Fractions(2);

        Action() {
            Arrays.fill(durationNumber, UNBOUNDED);
        }

        void needFact(int time, int f, boolean v) {
            int[] needed = v ? needTrue : needFalse;
            needed[time] |= factBit(f);
            seenAt[time] |= factBit(f);
            needs++;
        }

        void needNumber(int time, int n, int how, Fractions hand) {
            comparisons.tell(time, n, how, hand);
            seenAt[time] |= numberBit(n);
            needs++;
        }

        void changeFact(int time, int f, boolean v) {
            int[] made = v ? makeTrue : makeFalse;
            made[time] |= factBit(f);
            changed[time] |= factBit(f);
            changes++;
        }

        void changeNumber(int time, int n, int way, Fractions hand) {
            alterations.tell(time, n, way, hand);
            changed[time] |= numberBit(n);
            // A number that becomes something isn't looked at, but any other change of it interferes all the same.
            if (way != GROWS && way != SHRINKS) {
                seenAt[time] |= numberBit(n);
            }
            changes++;
        }

        void boundDuration(int which, int n, Fractions hand) {
            durationNumber[which] = n;
            duration.copy(which, hand, AMOUNT);
            measured = 0;
            for (int number : durationNumber) {
                measured |= number >= 0 ? numberBit(number) : 0;
            }
        }

        boolean isMet(State state, int time) {
            if (!state.hasFacts(needTrue[time], needFalse[time])) {
                return false;
            }
            for (int i = 0; i < comparisons.size; i++) {
                if (comparisons.time[i] == time
                        && !state.numbers.isSo(comparisons.number[i], comparisons.kind[i], comparisons.by, i)) {
                    return false;
                }
            }
            return true;
        }

        /** False as soon as a number is too long: the state is of no use then. */
        boolean changeState(State state, int time) {
            state.facts = state.facts & ~makeFalse[time] | makeTrue[time];
            for (int i = 0; i < alterations.size; i++) {
                if (alterations.time[i] == time) {
                    int n = alterations.number[i];
                    state.numbers.alter(n, alterations.kind[i], alterations.by, i);
                    if (state.numbers.isTooLong(n)) {
                        return false;
                    }
                }
            }
            return true;
        }

        /** Writes the bound down and says true if there is one. */
        boolean writeBound(int which, State state, Fractions bounds, int i) {
            int n = durationNumber[which];
            if (n == UNBOUNDED) {
                return false;
            }
            if (n == PLAIN) {
                bounds.copy(i, duration, which);
            } else {
                bounds.put(i, duration.up[which] * state.numbers.up[n], duration.down[which] * state.numbers.down[n]);
            }
            return true;
        }

        boolean interferes(int time, Action other, int otherTime) {
            int seenHere = seenAt[time] | (time == START ? measured : 0);
            int seenThere = other.seenAt[otherTime] | (otherTime == START ? other.measured : 0);
            return (changed[time] & seenThere
                    | other.changed[otherTime] & seenHere
                    | makeTrue[time] & other.makeFalse[otherTime]
                    | makeFalse[time] & other.makeTrue[otherTime]) != 0;
        }
    }

    /** All that holds whatever the plan is. */
    private static final class Task {
        private final ArrayList<Action> actions = new ArrayList<>();
        private final State first = new State();
        private final Fractions epsilon = new Fractions(1);
        private int goalTrue;
        private int goalFalse;
        private final int[] goalHow = new int[NUMBERS];
        private final Fractions goalWith = new Fractions(NUMBERS);

        Task() {
            epsilon.put(0, 1, 1000);
            Arrays.fill(goalHow, NONE);
        }

        void wishFact(int f, int v) {
            goalTrue = goalTrue & ~factBit(f) | (v == 1 ? factBit(f) : 0);
            goalFalse = goalFalse & ~factBit(f) | (v == 0 ? factBit(f) : 0);
        }

        boolean isGoalMet(State state) {
            if (!state.hasFacts(goalTrue, goalFalse)) {
                return false;
            }
            for (int n = 0; n < NUMBERS; n++) {
                if (goalHow[n] != NONE && !state.numbers.isSo(n, goalHow[n], goalWith, n)) {
                    return false;
                }
            }
            return true;
        }
    }

    /** The steps, and the row of their points. */
    private static final class Plan {
        private int steps;
        private final int[] actionOf = new int[MOST_STEPS];
        private final Fractions begins = new Fractions(MOST_STEPS);
        private final Fractions lasts = new Fractions(MOST_STEPS);
        private int points;
        private final int[] row = new int[MOST_POINTS];
        private int inRow;

        void empty() {
            steps = 0;
            points = 0;
            inRow = 0;
        }

        int addStep(int a) {
            actionOf[steps] = a;
            steps++;
            return steps - 1;
        }

        boolean isInRow(int point) {
            return (inRow >> point & 1) != 0;
        }

        void addToRow(int point) {
            row[points] = point;
            points++;
            inRow |= 1 << point;
        }

        int dropLastPoint() {
            points--;
            inRow &= ~(1 << row[points]);
            return row[points];
        }
    }

    /** What the latest judge() or arrange() found. */
    private static final class Verdict {
        private boolean isWritten;
        private int fault;
        private int point = NONE;
        private final State state = new State();

        void write(int newFault, int newPoint, State reached) {
            isWritten = true;
            fault = newFault;
            point = newPoint;
            state.copyFrom(reached);
        }
    }

    /** Goes through a plan as it is timed. */
    private static final class Judge {
        private final Fractions times = new Fractions(MOST_POINTS);
        private final int[] order = new int[MOST_POINTS];
        private final Fractions scratch = new Fractions(1);
        private final State now = new State();
        private final State next = new State();
        private int openMask;
        private int faultPoint;

        int findFault(Task task, Plan plan) {
            sortPoints(plan);
            now.copyFrom(task.first);
            openMask = 0;
            int points = 2 * plan.steps;
            int from = 0;
            while (from < points) {
                int to = from + 1;
                while (to < points && times.orderTo(order[to], times, order[from]) == 0) {
                    to++;
                }
                int fault = faultAmong(task, plan, from, to);
                if (fault != FINE) {
                    return fault;
                }
                from = to;
            }
            faultPoint = NONE;
            return task.isGoalMet(now) ? FINE : GOAL_UNMET;
        }

        /** By time, and the lower point first: a point moves only past later ones. */
        private void sortPoints(Plan plan) {
            for (int point = 0; point < 2 * plan.steps; point++) {
                times.copy(point, plan.begins, point / 2);
                if (isEnd(point)) {
                    times.alter(point, GROWS, plan.lasts, point / 2);
                }
                int place = point;
                while (place > 0 && times.orderTo(point, times, order[place - 1]) < 0) {
                    order[place] = order[place - 1];
                    place--;
                }
                order[place] = point;
            }
        }

        private int faultAmong(Task task, Plan plan, int from, int to) {
            faultPoint = findInterference(task, plan, from, to);
            if (faultPoint != NONE) {
                return INTERFERENCE;
            }
            faultPoint = findUnmetNeed(task, plan, from, to);
            if (faultPoint != NONE) {
                return NEED_UNMET;
            }
            faultPoint = findWrongDuration(task, plan, from, to);
            if (faultPoint != NONE) {
                return WRONG_DURATION;
            }
            faultPoint = doChanges(task, plan, from, to);
            if (faultPoint != NONE) {
                return TOO_LONG;
            }
            now.copyFrom(next);
            faultPoint = findUnmetAllOver(task, plan);
            return faultPoint != NONE ? ALL_OVER_UNMET : FINE;
        }

        private int findInterference(Task task, Plan plan, int from, int to) {
            for (int k = from; k < to; k++) {
                for (int j = 0; j < to; j++) {
                    if (j != k && areTooNear(task, plan, order[k], order[j])) {
                        return order[k];
                    }
                }
            }
            return NONE;
        }

        private boolean areTooNear(Task task, Plan plan, int point, int earlier) {
            Action one = actionAt(task, plan, point);
            Action other = actionAt(task, plan, earlier);
            if (!one.interferes(timeOf(point), other, timeOf(earlier))) {
                return false;
            }
            scratch.copy(0, times, point);
            scratch.alter(0, SHRINKS, times, earlier);
            return scratch.orderTo(0, task.epsilon, 0) < 0;
        }

        private int findUnmetNeed(Task task, Plan plan, int from, int to) {
            for (int k = from; k < to; k++) {
                if (!actionAt(task, plan, order[k]).isMet(now, timeOf(order[k]))) {
                    return order[k];
                }
            }
            return NONE;
        }

        private int findWrongDuration(Task task, Plan plan, int from, int to) {
            for (int k = from; k < to; k++) {
                if (!isEnd(order[k]) && !isDurationRight(task, plan, order[k] / 2)) {
                    return order[k];
                }
            }
            return NONE;
        }

        private boolean isDurationRight(Task task, Plan plan, int step) {
            Action done = actionAt(task, plan, 2 * step);
            if (done.writeBound(LEAST, now, scratch, 0) && plan.lasts.orderTo(step, scratch, 0) < 0) {
                return false;
            }
            return !done.writeBound(GREATEST, now, scratch, 0) || plan.lasts.orderTo(step, scratch, 0) <= 0;
        }

        /** Into the next state, so that the state now stands if a number becomes too long. */
        private int doChanges(Task task, Plan plan, int from, int to) {
            next.copyFrom(now);
            for (int k = from; k < to; k++) {
                if (!actionAt(task, plan, order[k]).changeState(next, timeOf(order[k]))) {
                    return order[k];
                }
                openMask ^= 1 << order[k] / 2;
            }
            return NONE;
        }

        private int findUnmetAllOver(Task task, Plan plan) {
            for (int s = 0; s < plan.steps; s++) {
                if ((openMask >> s & 1) != 0 && !actionAt(task, plan, 2 * s).isMet(now, ALL_OVER)) {
                    return 2 * s;
                }
            }
            return NONE;
        }

        private static Action actionAt(Task task, Plan plan, int point) {
            return task.actions.get(plan.actionOf[point / 2]);
        }
    }

    /** Does points one by one, takes them back for seeking, and finds the earliest times of a row. */
    private static final class Arranger {
        private final State[] states = new State[MOST_POINTS + 1];
        private int points;
        private final int[] row = new int[MOST_POINTS];
        private final int[] latestInterfering = new int[MOST_POINTS];
        private final long[] times = new long[MOST_POINTS];
        private int begunSteps;
        private int openMask;
        private final int[] actionOf = new int[MOST_STEPS];
        private final int[] startAt = new int[MOST_STEPS];
        private final Fractions least = new Fractions(MOST_STEPS);
        private final Fractions greatest = new Fractions(MOST_STEPS);
        private final boolean[] hasGreatest = new boolean[MOST_STEPS];
        private final long[] leastUnits = new long[MOST_STEPS];
        private final long[] greatestUnits = new long[MOST_STEPS];
        private long unit;
        private final Fractions shared = new Fractions(1);
        private int faultPoint;

        Arranger() {
            for (int k = 0; k < states.length; k++) {
                states[k] = new State();
            }
        }

        void beginAt(State first) {
            states[0].copyFrom(first);
            points = 0;
            begunSteps = 0;
            openMask = 0;
        }

        int findFault(Task task, Plan plan) {
            beginAt(task.first);
            for (int k = 0; k < plan.points; k++) {
                int fault = addPoint(task, plan.row[k], plan.actionOf[plan.row[k] / 2]);
                if (fault != FINE) {
                    return fault;
                }
            }
            return findLateFault(task);
        }

        /** With a fault the row stays as it was, and only the state behind it has been written. */
        int addPoint(Task task, int point, int a) {
            int step = point / 2;
            int time = timeOf(point);
            Action done = task.actions.get(a);
            State before = states[points];
            State behind = states[points + 1];
            faultPoint = point;
            if (!done.isMet(before, time)) {
                return NEED_UNMET;
            }
            behind.copyFrom(before);
            if (!done.changeState(behind, time)) {
                return TOO_LONG;
            }
            actionOf[step] = a;
            int openBehind = openMask ^ 1 << step;
            faultPoint = findUnmetAllOver(task, behind, openBehind);
            if (faultPoint != NONE) {
                return ALL_OVER_UNMET;
            }
            if (time == START) {
                startAt[step] = points;
                writeBounds(task, done, step);
                begunSteps++;
            }
            latestInterfering[points] = findLatestInterfering(task, done, time);
            row[points] = point;
            points++;
            openMask = openBehind;
            return FINE;
        }

        void takePointBack() {
            points--;
            openMask ^= 1 << row[points] / 2;
            if (!isEnd(row[points])) {
                begunSteps--;
            }
        }

        boolean isOpen(int step) {
            return (openMask >> step & 1) != 0;
        }

        int openSteps() {
            return 2 * begunSteps - points;
        }

        /** The faults that only a whole row can have. */
        int findLateFault(Task task) {
            faultPoint = NONE;
            if (!task.isGoalMet(states[points])) {
                return GOAL_UNMET;
            }
            if (!findUnit(task)) {
                return BOUNDS_UNFIT;
            }
            return findTimes(task) ? FINE : NO_TIMES;
        }

        /** The state to which the latest row came that had this fault. */
        State reached(int fault) {
            return states[fault == ALL_OVER_UNMET ? points + 1 : points];
        }

        void tellRow(Plan plan) {
            plan.empty();
            for (int s = 0; s < begunSteps; s++) {
                plan.addStep(actionOf[s]);
            }
            for (int k = 0; k < points; k++) {
                plan.addToRow(row[k]);
            }
        }

        void tellTimes(Plan plan) {
            for (int k = 0; k < points; k++) {
                int step = row[k] / 2;
                if (isEnd(row[k])) {
                    plan.lasts.put(step, times[k] - times[startAt[step]], unit);
                } else {
                    plan.begins.put(step, times[k], unit);
                }
            }
        }

        private int findUnmetAllOver(Task task, State state, int mask) {
            for (int s = 0; s < MOST_STEPS && mask >> s != 0; s++) {
                if ((mask >> s & 1) != 0 && !task.actions.get(actionOf[s]).isMet(state, ALL_OVER)) {
                    return 2 * s;
                }
            }
            return NONE;
        }

        private void writeBounds(Task task, Action done, int step) {
            State before = states[points];
            boolean hasLeast = done.writeBound(LEAST, before, least, step);
            if (!hasLeast || least.orderTo(step, task.epsilon, 0) < 0) {
                least.copy(step, task.epsilon, 0);
            }
            hasGreatest[step] = done.writeBound(GREATEST, before, greatest, step);
        }

        /** Only the latest one counts: the others have their times before it. */
        private int findLatestInterfering(Task task, Action done, int time) {
            for (int k = points - 1; k >= 0; k--) {
                Action other = task.actions.get(actionOf[row[k] / 2]);
                if (done.interferes(time, other, timeOf(row[k]))) {
                    return k;
                }
            }
            return NONE;
        }

        /** The unit is that of which all bounds are whole multiples; false if it is too fine or a bound too wide. */
        private boolean findUnit(Task task) {
            unit = 1;
            boolean fits = refineUnit(task.epsilon, 0);
            for (int s = 0; s < begunSteps && fits; s++) {
                fits = refineUnit(least, s) && (!hasGreatest[s] || refineUnit(greatest, s));
            }
            return fits;
        }

        private boolean refineUnit(Fractions bounds, int i) {
            // In lowest terms the unit has lost what it shares with the denominator.
            shared.put(0, unit, bounds.down[i]);
            unit = shared.up[0] * bounds.down[i];
            return unit <= FINEST_UNIT && !bounds.isAbove(i, WIDEST_BOUND);
        }

        private long inUnits(Fractions bounds, int i) {
            return bounds.down[i] > 0 ? bounds.up[i] * (unit / bounds.down[i]) : 0;
        }

        private boolean findTimes(Task task) {
            for (int s = 0; s < begunSteps; s++) {
                if (hasGreatest[s] && greatest.orderTo(s, least, s) < 0) {
                    return false;
                }
                leastUnits[s] = inUnits(least, s);
                greatestUnits[s] = hasGreatest[s] ? inUnits(greatest, s) : 0;
            }
            Arrays.fill(times, 0L);
            long epsilonUnits = inUnits(task.epsilon, 0);
            // A chain of constraints goes back over each step once at the most: what still moves then moves for ever.
            for (int round = 0; round <= begunSteps; round++) {
                delayPoints(epsilonUnits);
                if (!delayStarts()) {
                    return true;
                }
            }
            return false;
        }

        private void delayPoints(long epsilonUnits) {
            for (int k = 0; k < points; k++) {
                long earliest = k > 0 ? times[k - 1] : 0;
                if (latestInterfering[k] != NONE) {
                    earliest = Math.max(earliest, times[latestInterfering[k]] + epsilonUnits);
                }
                if (isEnd(row[k])) {
                    int step = row[k] / 2;
                    earliest = Math.max(earliest, times[startAt[step]] + leastUnits[step]);
                }
                times[k] = Math.max(earliest, times[k]);
            }
        }

        /** Whether a start had to be delayed, so that what comes behind it is open again. */
        private boolean delayStarts() {
            boolean moves = false;
            for (int k = 0; k < points; k++) {
                int step = row[k] / 2;
                if (isEnd(row[k]) && hasGreatest[step]) {
                    long earliest = times[k] - greatestUnits[step];
                    if (earliest > times[startAt[step]]) {
                        times[startAt[step]] = earliest;
                        moves = true;
                    }
                }
            }
            return moves;
        }
    }
}
