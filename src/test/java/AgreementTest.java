import java.util.ArrayList;
import java.util.Arrays;
import java.util.List;
import java.util.Random;
import java.util.function.Consumer;

/**
 * judge(), arrange() and seek() held against one another, through the public face alone: all whole times of a small
 * row are judged, and the earliest ones that have no fault must be those that arrange() gives (EPSILON is 1, and all
 * durations are whole); of all rows the one that seek() finds must be the first that arrange() takes.
 */
final class AgreementTest {
    private static final Check check = new Check();
    private static final int TASKS = 600;
    private static final int ACTIONS = 3;
    private static final int MOST_STEPS = 3;
    private static final int LONGEST_LEAST = 2;
    /** No chain of constraints over six points is longer: each least duration once, and EPSILON between them. */
    private static final int HORIZON = MOST_STEPS * LONGEST_LEAST + MOST_STEPS - 1;

    private static int timed;
    private static int untimed;
    private static int sought;

    private final Random random;
    private final List<Consumer<PlanJudge>> told = new ArrayList<>();

    private AgreementTest(long seed) {
        random = new Random(seed);
        tellTask();
    }

    public static void main(String[] args) {
        for (int seed = 0; seed < TASKS; seed++) {
            check.part("task " + seed);
            AgreementTest task = new AgreementTest(seed);
            for (int tries = 0; tries < 20 && !task.hasEarliestTimes(); tries++) {
                check.part("task " + seed + ", row " + (tries + 1));
            }
            task.firstRow();
        }
        check.part("all tasks");
        check.so("rows with times: " + timed, timed > TASKS / 8);
        check.so("rows without: " + untimed, untimed > TASKS / 20);
        check.so("rows found: " + sought, sought > TASKS / 8);
        check.close();
    }

    /** Told all of the task; each object is asked little, as the document promises no more than 512 calls. */
    private PlanJudge newObject() {
        PlanJudge x = new PlanJudge();
        for (Consumer<PlanJudge> call : told) {
            call.accept(x);
        }
        return x;
    }

    private void tellTask() {
        told.add(x -> x.amount(1, 1));
        told.add(PlanJudge::epsilon);
        for (int a = 0; a < ACTIONS; a++) {
            told.add(PlanJudge::action);
            tellTerm(a, 0);
            tellTerm(a, 1);
            tellDurations(a);
        }
        int f = random.nextInt(2);
        int other = random.nextInt(2);
        if (random.nextInt(6) > 0) {
            told.add(x -> x.wish(f, 1));
        }
        if (random.nextInt(4) == 0) {
            told.add(x -> x.wish(1 - f, other));
        }
        if (random.nextBoolean()) {
            told.add(x -> x.number(1));
        }
    }

    private void tellTerm(int a, int i) {
        int time = 2 * random.nextInt(2);
        int needTime = random.nextInt(3);
        boolean v = random.nextInt(3) > 0;
        int way = random.nextInt(4);
        switch (random.nextInt(5)) {
            case 0, 1 -> told.add(x -> x.make(a, time, i, v));
            case 2 -> told.add(x -> x.change(a, time, i, way));
            case 3 -> told.add(x -> x.need(a, needTime, i, v));
            default -> {
            }
        }
    }

    private void tellDurations(int a) {
        int least = 1 + random.nextInt(LONGEST_LEAST);
        if (random.nextInt(3) > 0) {
            tellBound(a, 0, least, -1);
        }
        if (random.nextInt(3) > 0) {
            tellBound(a, 1, least + random.nextInt(3), random.nextInt(6) == 0 ? 1 : -1);
        }
    }

    private void tellBound(int a, int which, int p, int n) {
        told.add(x -> x.amount(p, 1));
        told.add(x -> x.last(a, which, n));
        told.add(x -> x.amount(1, 1));
    }

    /** False if the row has a fault that leaves its times aside. */
    private boolean hasEarliestTimes() {
        int steps = 2 + random.nextInt(MOST_STEPS - 1);
        int[] actions = random.ints(steps, 0, ACTIONS).toArray();
        int[] row = randomRow(steps);
        PlanJudge x = newObject();
        Tell.row(x, actions, row);
        int fault = x.arrange();
        if (fault != 0 && fault != 7) {
            return false;
        }
        long[] due = new long[row.length];
        Arrays.fill(due, Long.MAX_VALUE);
        boolean any = judgeAllTimes(actions, row, new long[row.length], 0, due);
        check.same("arrange() of " + Arrays.toString(actions) + " as " + Arrays.toString(row), fault, any ? 0 : 7);
        if (fault == 0) {
            timed++;
            timesAre(x, row, due);
            judgedAlike(x);
        } else {
            untimed++;
        }
        return true;
    }

    private int[] randomRow(int steps) {
        List<Integer> points = new ArrayList<>();
        while (points.size() < 2 * steps) {
            int point = random.nextInt(2 * steps);
            if (!points.contains(point) && (point % 2 == 0 || points.contains(point - 1))) {
                points.add(point);
            }
        }
        return points.stream().mapToInt(Integer::intValue).toArray();
    }

    /** Of all whole times that rise along the row and have no fault, the least of each point; false if there are none. */
    private boolean judgeAllTimes(int[] actions, int[] row, long[] times, int k, long[] least) {
        if (k < row.length) {
            boolean any = false;
            for (long t = k == 0 ? 0 : times[k - 1]; t <= HORIZON; t++) {
                times[k] = t;
                any |= judgeAllTimes(actions, row, times, k + 1, least);
            }
            return any;
        }
        if (!isJudgedWell(actions, row, times)) {
            return false;
        }
        for (int i = 0; i < row.length; i++) {
            least[i] = Math.min(least[i], times[i]);
        }
        return true;
    }

    private boolean isJudgedWell(int[] actions, int[] row, long[] times) {
        int[] timeOf = new int[row.length];
        for (int k = 0; k < row.length; k++) {
            timeOf[row[k]] = (int) times[k];
        }
        for (int s = 0; s < actions.length; s++) {
            if (timeOf[2 * s] >= timeOf[2 * s + 1]) {
                return false;
            }
        }
        PlanJudge x = newObject();
        for (int s = 0; s < actions.length; s++) {
            Tell.step(x, actions[s], timeOf[2 * s], timeOf[2 * s + 1] - timeOf[2 * s]);
        }
        return x.judge() == 0;
    }

    private static void timesAre(PlanJudge x, int[] row, long[] due) {
        for (int k = 0; k < row.length; k++) {
            int s = row[k] / 2;
            long time = x.above(0, s) + (row[k] % 2 == 0 ? 0 : x.above(1, s));
            check.same("time of point " + row[k], time, due[k]);
            check.same("below(" + row[k] % 2 + ", " + s + ")", x.below(row[k] % 2, s), 1);
        }
    }

    /** Points of one time don't interfere: the state behind them is that of the row, whatever their order. */
    private static void judgedAlike(PlanJudge x) {
        List<String> before = state(x);
        check.same("judge() of what was arranged", x.judge(), 0);
        check.alike("its state", state(x), before);
    }

    private static List<String> state(PlanJudge x) {
        List<String> all = new ArrayList<>();
        for (int i = 0; i < 2; i++) {
            all.add(x.holds(i) + " " + x.above(2, i) + "/" + x.below(2, i));
        }
        return all;
    }

    private void firstRow() {
        int[] due = null;
        for (int events = 0; events <= 4 && due == null; events++) {
            due = firstTaken(new int[events], 0, 0);
        }
        PlanJudge x = newObject();
        check.same("seek(4)", x.seek(4), due == null ? -1 : due.length);
        if (due == null) {
            return;
        }
        sought += due.length > 0 ? 1 : 0;
        for (int k = 0; k < due.length; k++) {
            int point = x.at(k);
            check.same("event " + k, point % 2 == 0 ? x.done(point / 2) : 12 + point / 2, due[k]);
        }
        List<String> before = times(x);
        check.same("arrange() of what was sought", x.arrange(), 0);
        check.alike("its times", times(x), before);
        judgedAlike(x);
    }

    private static List<String> times(PlanJudge x) {
        List<String> all = new ArrayList<>();
        for (int s = 0; s < x.count(3); s++) {
            all.add(x.above(0, s) + "/" + x.below(0, s) + " " + x.above(1, s) + "/" + x.below(1, s));
        }
        return all;
    }

    private int[] firstTaken(int[] events, int k, int begun) {
        if (k == events.length) {
            return 2 * begun == k && isTaken(events) ? events : null;
        }
        for (int e = 0; e < 12 + begun; e++) {
            events[k] = e;
            boolean begins = e < ACTIONS;
            if (begins || e >= 12 && !isAmong(events, k, e)) {
                int[] found = firstTaken(events, k + 1, begins ? begun + 1 : begun);
                if (found != null) {
                    return found;
                }
            }
        }
        return null;
    }

    private static boolean isAmong(int[] events, int size, int event) {
        for (int k = 0; k < size; k++) {
            if (events[k] == event) {
                return true;
            }
        }
        return false;
    }

    private boolean isTaken(int[] events) {
        int[] row = new int[events.length];
        int begun = 0;
        for (int k = 0; k < row.length; k++) {
            row[k] = events[k] < 12 ? 2 * begun : 2 * (events[k] - 12) + 1;
            begun += events[k] < 12 ? 1 : 0;
        }
        PlanJudge x = newObject();
        Tell.row(x, Arrays.stream(events).filter(e -> e < 12).toArray(), row);
        return x.arrange() == 0;
    }
}
