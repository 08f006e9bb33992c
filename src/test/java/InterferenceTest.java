/** Promises 17 and 20: which points INTERFERE, and which don't. */
final class InterferenceTest {
    private static final Check check = new Check();
    private static final String[] KINDS = {"need", "compare", "make true", "make false", "becomes", "grows", "shrinks",
        "times", "least", "greatest", "all over"};

    private InterferenceTest() {
    }

    public static void main(String[] args) {
        interference();
        interferenceInARow();
        plainDurationsAndFacts();
        check.close();
    }

    private static boolean changesFact(int kind) {
        return kind == 2 || kind == 3;
    }

    private static boolean changesNumber(int kind) {
        return kind >= 4 && kind <= 7;
    }

    private static boolean looksAtNumber(int kind, int time) {
        return kind == 1 || kind == 7 || (kind == 8 || kind == 9) && time == 0;
    }

    private static boolean interfere(int one, int oneTime, int other, int otherTime) {
        boolean stepwise = (one == 5 || one == 6) && (other == 5 || other == 6);
        return changesFact(one) && other == 0
                || one == 0 && changesFact(other)
                || changesNumber(one) && looksAtNumber(other, otherTime)
                || looksAtNumber(one, oneTime) && changesNumber(other)
                || changesFact(one) && changesFact(other) && one != other
                || changesNumber(one) && changesNumber(other) && !stepwise;
    }

    /** Fact i is false and number i is 100, so that needs and durations are met. */
    private static void tellKind(PlanJudge x, int a, int kind, int time, int i) {
        x.amount(1, kind == 8 ? 1000 : 1);
        switch (kind) {
            case 0 -> x.need(a, time, i, false);
            case 1 -> x.compare(a, time, i, 3);
            case 2, 3 -> x.make(a, time, i, kind == 2);
            case 4, 5, 6, 7 -> x.change(a, time, i, kind - 4);
            case 8, 9 -> x.last(a, kind - 8, i);
            default -> x.need(a, 1, i, false);
        }
    }

    private static PlanJudge twoKinds(int one, int oneTime, int other, int otherTime, int otherIndex) {
        PlanJudge x = Tell.actions(2);
        x.amount(100, 1);
        for (int n = 0; n < 8; n++) {
            x.number(n);
        }
        tellKind(x, 0, one, oneTime, 7);
        tellKind(x, 1, other, otherTime, otherIndex);
        return x;
    }

    /** Two points at 10, the starts or ends of steps 0 and 1. */
    private static boolean areFaulty(int one, int oneTime, int other, int otherTime, int otherIndex) {
        PlanJudge x = twoKinds(one, oneTime, other, otherTime, otherIndex);
        Tell.step(x, 0, oneTime == 0 ? 10 : 4, 6);
        Tell.step(x, 1, otherTime == 0 ? 10 : 3, 7);
        boolean faulty = x.judge() == 1;
        check.same("the lower point", faulty ? x.count(1) : 0, faulty && oneTime == 2 ? 1 : 0);
        return faulty;
    }

    private static void interference() {
        check.part("Two points INTERFERE if one of them changes what the other one looks at; or both change ..");
        for (int one = 0; one < KINDS.length; one++) {
            for (int other = 0; other < KINDS.length; other++) {
                for (int times = 0; times < 4; times++) {
                    int oneTime = times & 2;
                    int otherTime = 2 * (times & 1);
                    String what = KINDS[one] + " at " + oneTime + ", " + KINDS[other] + " at " + otherTime;
                    check.same(what, areFaulty(one, oneTime, other, otherTime, 7) ? 1 : 0,
                            interfere(one, oneTime, other, otherTime) ? 1 : 0);
                    check.so(what + " of another one", !areFaulty(one, oneTime, other, otherTime, 6));
                }
            }
        }
    }

    private static long thousandths(PlanJudge x, int what, int s) {
        return 1000 * x.above(what, s) / x.below(what, s);
    }

    /** The starts of steps 0 and 1, then their ends: these or those are at least EPSILON apart if they interfere. */
    private static void arrangedApart(String what, int one, int other, int time) {
        PlanJudge x = twoKinds(one, time, other, time, 7);
        Tell.row(x, new int[] {0, 1}, 0, 2, 1, 3);
        if (x.arrange() != 0) {
            return;
        }
        long apart = interfere(one, time, other, time) ? 1 : 0;
        long oneLasts = one == 8 ? 100 : 1;
        check.same(what + ": begin of step 1", thousandths(x, 0, 1), time == 0 ? apart : 0);
        if (time == 2) {
            check.same(what + ": step 1 lasts", thousandths(x, 1, 1), Math.max(other == 8 ? 100 : 1, oneLasts + apart));
        }
    }

    private static void interferenceInARow() {
        check.part("of each two points the later one at least EPSILON later if they interfere");
        for (int one = 0; one < KINDS.length; one++) {
            for (int other = 0; other < KINDS.length; other++) {
                for (int time = 0; time <= 2; time += 2) {
                    arrangedApart(KINDS[one] + " and " + KINDS[other] + " at " + time, one, other, time);
                }
            }
        }
    }

    private static void plainDurationsAndFacts() {
        check.part("a start also at the numbers of its action's durations: at no fact, and at no other number");
        for (int f = 0; f < 16; f++) {
            for (int n = -2; n < 8; n++) {
                PlanJudge x = Tell.actions(2);
                x.amount(9, 1);
                x.number(Math.max(0, n));
                x.last(0, 1, n);
                x.make(1, 0, f, true);
                x.change(1, 0, (Math.max(0, n) + 1) % 8, 1);
                Tell.step(x, 0, 0, 1);
                Tell.step(x, 1, 0, 1);
                check.fault("fact " + f + " and duration by " + n, x, x.judge(), 0, -1);
            }
        }
    }
}
