/**
 * The limits of promises 1 to 16, 18, 19 and 22 to 27: what is allowed last, what is empty and what is full.
 * What is refused first stands in RefusalTest, the limits of the faults in JudgeEdgeTest and ArrangeEdgeTest.
 */
final class LimitTest {
    private static final Check check = new Check();
    /** Three neighbours, rising: they differ by some 1/998000. */
    private static final int[][] NEIGHBOURS = {{1, 1000}, {1, 999}, {1, 998}};
    private static final boolean[][] COMPARES = {{true, false, false}, {true, true, false}, {false, true, false},
        {false, true, true}, {false, false, true}};

    private LimitTest() {
    }

    public static void main(String[] args) {
        bothAtHandAreNought();
        firstStateIsFalseAndNought();
        goalIsNoneAtFirst();
        epsilonIsAThousandthAtFirst();
        noActionsAndNoPlan();
        amounts();
        moments();
        epsilons();
        facts();
        numbers();
        wishes();
        wants();
        twelveActions();
        needs();
        comparisons();
        eightNeeds();
        makes();
        changes();
        sixChanges();
        oncePerTime();
        durations();
        noDurations();
        twelveSteps();
        shortestAndLongestSteps();
        clearing();
        rowOfAllPoints();
        rowOfNoPoints();
        counts();
        stateTold();
        lastOf512Calls();
        check.close();
    }

    private static PlanJudge oneAction() {
        return Check.objectWith(1, 1);
    }

    private static void stepOf(PlanJudge x, int a, int lasts) {
        x.clear();
        x.moment(0, 1);
        x.amount(lasts, 1);
        x.step(a);
    }

    private static void bothAtHandAreNought() {
        check.part("Two are at hand: the AMOUNT and the MOMENT, at first both 0");
        PlanJudge x = new PlanJudge();
        x.action();
        x.change(0, 2, 1, 0);
        x.number(0);
        check.fraction(x, 2, 0, 0, 1);
        check.throwsArgument("step(0) that lasts 0", () -> x.step(0));
        x.amount(1, 1);
        x.number(1);
        check.same("step(0)", x.step(0), 0);
        check.fraction(x, 0, 0, 0, 1);
        check.same("judge()", x.judge(), 0);
        check.fraction(x, 2, 1, 0, 1);
    }

    private static void firstStateIsFalseAndNought() {
        check.part("The FIRST state: all false, all 0, as long as nothing else is told");
        PlanJudge x = new PlanJudge();
        for (int turn = 0; turn < 3; turn++) {
            for (int f = 0; f < 16; f++) {
                check.so("fact " + f + " is false", !x.holds(f));
            }
            for (int n = 0; n < 8; n++) {
                check.fraction(x, 2, n, 0, 1);
            }
            check.same("judge() or arrange()", turn == 0 ? x.judge() : x.arrange(), 0);
        }
    }

    private static void goalIsNoneAtFirst() {
        check.part("The GOAL: at first none");
        PlanJudge x = new PlanJudge();
        check.same("judge() of the first state", x.judge(), 0);
        x.amount(-7, 3);
        for (int f = 0; f < 16; f++) {
            x.fact(f, true);
            x.number(f / 2);
        }
        check.same("judge() of the opposite", x.judge(), 0);
        check.same("arrange() of the opposite", x.arrange(), 0);
        check.same("seek(0) of the opposite", x.seek(0), 0);
    }

    private static void epsilonIsAThousandthAtFirst() {
        check.part("EPSILON is at first 1/1000");
        PlanJudge x = oneAction();
        x.make(0, 0, 0, true);
        x.make(0, 2, 0, false);
        x.amount(1, 1000);
        x.step(0);
        check.same("judge() of a step of 1/1000", x.judge(), 0);
        PlanJudge y = Check.objectWith(2, 9);
        y.make(0, 0, 0, true);
        y.make(1, 0, 0, false);
        y.moment(1, 999);
        y.step(0);
        y.moment(2, 1000);
        y.step(1);
        check.same("judge() with 999/999000 between", y.judge(), 1);
        y.push(0);
        y.push(1);
        y.push(2);
        y.push(3);
        check.same("arrange()", y.arrange(), 0);
        check.fraction(y, 1, 0, 1, 1000);
    }

    private static void noActionsAndNoPlan() {
        check.part("promise 1: no actions, no plan");
        PlanJudge x = new PlanJudge();
        check.same("actions", x.count(2), 0);
        check.same("steps", x.count(3), 0);
        check.same("points", x.count(4), 0);
        check.same("pop()", x.pop(), -1);
        check.same("at(0)", x.at(0), -1);
        check.throwsIndex("need of action 0", () -> x.need(0, 0, 0, true));
        check.throwsIndex("done(0)", () -> x.done(0));
        check.throwsIndex("push(0)", () -> x.push(0));
        check.same("judge()", x.judge(), 0);
        check.same("arrange()", x.arrange(), 0);
        check.same("seek(6)", x.seek(6), 0);
        check.same("action()", x.action(), 0);
    }

    private static long divisor(long a, long b) {
        return b == 0 ? Math.abs(a) : divisor(b, a % b);
    }

    private static void amounts() {
        check.part("promise 2: p -100000 .. 100000, q 1 .. 1000; told in lowest terms, the denominator above 0");
        PlanJudge x = new PlanJudge();
        for (int p : new int[] {-100000, -99999, -1000, -1, 0, 1, 1000, 99999, 100000}) {
            for (int q : new int[] {1, 2, 999, 1000}) {
                x.amount(p, q);
                x.number(0);
                long d = divisor(p, q);
                check.fraction(x, 2, 0, p / d, q / d);
            }
        }
    }

    private static void moments() {
        check.part("promise 3: likewise");
        PlanJudge x = oneAction();
        for (int p : new int[] {0, 1, 1000, 99999, 100000}) {
            for (int q : new int[] {1, 2, 999, 1000}) {
                x.clear();
                x.moment(p, q);
                x.step(0);
                long d = divisor(p, q);
                check.fraction(x, 0, 0, p / d, q / d);
            }
        }
        for (int p : new int[] {-100000, -1}) {
            for (int q : new int[] {1, 1000}) {
                check.throwsNothing("moment(" + p + ", " + q + ")", () -> x.moment(p, q));
                check.throwsArgument("step(0) from then on", () -> x.step(0));
            }
        }
    }

    private static void epsilons() {
        check.part("promise 4: EPSILON is the AMOUNT, if it is above 0");
        for (int[] told : new int[][] {{1, 1000}, {1, 999}, {1, 1}, {10000, 1}}) {
            PlanJudge x = oneAction();
            x.step(0);
            x.push(0);
            x.push(1);
            x.amount(told[0], told[1]);
            check.throwsNothing("epsilon() of " + told[0] + "/" + told[1], x::epsilon);
            check.same("arrange()", x.arrange(), 0);
            check.fraction(x, 1, 0, told[0], told[1]);
        }
        PlanJudge x = Check.objectWith(2, 100000);
        x.epsilon();
        x.make(0, 0, 0, true);
        x.make(1, 0, 0, false);
        x.step(0);
        x.moment(99999, 1);
        x.step(1);
        check.fault("99999 apart with EPSILON 100000", x, x.judge(), 1, 2);
        x.clear();
        x.moment(0, 1);
        x.step(0);
        x.moment(100000, 1);
        x.step(1);
        check.fault("100000 apart with EPSILON 100000", x, x.judge(), 0, -1);
    }

    private static void facts() {
        check.part("promise 5: facts 0 .. 15");
        for (int f = 0; f < 16; f++) {
            PlanJudge x = new PlanJudge();
            x.fact(f, true);
            for (int other = 0; other < 16; other++) {
                check.same("fact " + other + " with fact " + f, x.holds(other) ? 1 : 0, other == f ? 1 : 0);
                x.fact(other, true);
            }
            x.fact(f, false);
            for (int other = 0; other < 16; other++) {
                check.same("fact " + other + " without fact " + f, x.holds(other) ? 1 : 0, other == f ? 0 : 1);
            }
        }
    }

    private static void numbers() {
        check.part("promise 6: numbers 0 .. 7");
        for (int n = 0; n < 8; n++) {
            PlanJudge x = new PlanJudge();
            x.amount(-5, 10);
            x.number(n);
            for (int other = 0; other < 8; other++) {
                check.fraction(x, 2, other, other == n ? -1 : 0, other == n ? 2 : 1);
            }
        }
    }

    private static void wishes() {
        check.part("promise 7: true (v = 1), false (0), or doesn't want anything of it (-1)");
        for (int f = 0; f < 16; f++) {
            for (int v = -1; v <= 1; v++) {
                for (int value = 0; value <= 1; value++) {
                    PlanJudge x = new PlanJudge();
                    for (int other = 0; other < 16; other++) {
                        x.fact(other, other == f ? value == 1 : value == 0);
                    }
                    x.wish(f, 1 - Math.abs(v));
                    x.wish(f, v);
                    boolean met = v == -1 || v == value;
                    check.fault("wish(" + f + ", " + v + ") with " + value, x, x.judge(), met ? 0 : 6, -1);
                }
            }
        }
    }

    private static void wants() {
        check.part("promise 8: to compare (0 .. 4) with the AMOUNT, or (-1) nothing of it");
        for (int n = 0; n < 8; n++) {
            for (int how = -1; how <= 4; how++) {
                for (int value = 0; value < 3; value++) {
                    PlanJudge x = new PlanJudge();
                    x.amount(1, 999);
                    x.want(n, 0);
                    x.want(n, 4);
                    x.want(n, how);
                    x.amount(NEIGHBOURS[value][0], NEIGHBOURS[value][1]);
                    x.number(n);
                    boolean met = how == -1 || COMPARES[how][value];
                    check.fault("want(" + n + ", " + how + "), " + value, x, x.judge(), met ? 0 : 6, -1);
                }
            }
        }
    }

    private static void twelveActions() {
        check.part("promise 9: there are 12");
        PlanJudge x = new PlanJudge();
        for (int a = 0; a < 12; a++) {
            check.same("action()", x.action(), a);
        }
        check.throwsState("action()", x::action);
        for (int a = 0; a < 12; a++) {
            int each = a;
            check.throwsNothing("make of action " + a, () -> x.make(each, 2, each, true));
        }
        check.same("count(2)", x.count(2), 12);
        for (int a = 0; a < 12; a++) {
            stepOf(x, a, 1);
            check.same("judge()", x.judge(), 0);
            for (int f = 0; f < 12; f++) {
                check.same("fact " + f + " by action " + a, x.holds(f) ? 1 : 0, f == a ? 1 : 0);
            }
        }
    }

    /** An unmet need shows as this fault, at this point, if the step is the first one. */
    private static void met(String what, PlanJudge x, int time, boolean met) {
        check.fault(what, x, x.judge(), met ? 0 : time == 1 ? 5 : 2, met ? -1 : time == 2 ? 1 : 0);
    }

    private static void needs() {
        check.part("promise 10: a fact at a time");
        for (int f = 0; f < 16; f++) {
            for (int time = 0; time <= 2; time++) {
                for (int v = 0; v <= 1; v++) {
                    PlanJudge x = oneAction();
                    x.need(0, time, f, v == 1);
                    stepOf(x, 0, 1);
                    for (int other = 0; other < 16; other++) {
                        x.fact(other, (other == f) == (v == 1));
                    }
                    met("fact " + f + " as needed at " + time, x, time, true);
                    for (int other = 0; other < 16; other++) {
                        x.fact(other, (other == f) != (v == 1));
                    }
                    met("fact " + f + " not as needed at " + time, x, time, false);
                }
            }
        }
    }

    private static void comparisons() {
        check.part("promise 11: a number to compare (0 .. 4) with the AMOUNT at a time");
        for (int n = 0; n < 8; n++) {
            for (int how = 0; how <= 4; how++) {
                for (int value = 0; value < 3; value++) {
                    for (int time = 0; time <= 2; time++) {
                        PlanJudge x = oneAction();
                        x.amount(1, 999);
                        x.compare(0, time, n, how);
                        x.amount(NEIGHBOURS[value][0], NEIGHBOURS[value][1]);
                        x.number(n);
                        stepOf(x, 0, 1);
                        met("number " + n + ", how " + how + ", " + value, x, time, COMPARES[how][value]);
                    }
                }
            }
        }
    }

    private static void eightNeeds() {
        check.part("promises 10 and 11: it has eight needs");
        for (int ofFacts = 0; ofFacts <= 8; ofFacts++) {
            PlanJudge x = Check.objectWith(2, 0);
            for (int i = 0; i < 8; i++) {
                int each = i;
                boolean fact = i < ofFacts;
                check.throwsNothing("need " + i,
                        fact ? () -> x.need(0, each % 3, 9, false) : () -> x.compare(0, each % 3, 5, 2));
            }
            check.throwsState("a ninth fact beside " + ofFacts, () -> x.need(0, 0, 9, false));
            check.throwsState("a ninth number beside " + ofFacts, () -> x.compare(0, 0, 5, 2));
            check.throwsNothing("the other action's fact", () -> x.need(1, 0, 9, true));
            check.throwsNothing("the other action's number", () -> x.compare(1, 0, 5, 4));
            stepOf(x, 0, 1);
            met("all eight", x, 0, true);
        }
        for (int i = 0; i < 8; i++) {
            PlanJudge x = oneAction();
            for (int f = 0; f < 8; f++) {
                x.need(0, 2, f, true);
                x.fact(f, f != i);
            }
            stepOf(x, 0, 1);
            met("fact " + i + " of eight", x, 2, false);
            PlanJudge y = oneAction();
            for (int n = 0; n < 8; n++) {
                y.amount(n == i ? 1 : 2, 1);
                y.number(n);
                y.amount(2, 1);
                y.compare(0, 1, n, 2);
            }
            stepOf(y, 0, 1);
            met("number " + i + " of eight", y, 1, false);
        }
    }

    private static void makes() {
        check.part("promise 12: a fact at a time (0 or 2)");
        for (int f = 0; f < 16; f++) {
            for (int time = 0; time <= 2; time += 2) {
                for (int v = 0; v <= 1; v++) {
                    PlanJudge x = oneAction();
                    x.fact(f, v == 0);
                    x.make(0, time, f, v == 1);
                    x.need(0, 1, f, (v == 1) == (time == 0));
                    stepOf(x, 0, 1);
                    check.fault("make of fact " + f + " at " + time, x, x.judge(), 0, -1);
                    for (int other = 0; other < 16; other++) {
                        check.same("fact " + other, x.holds(other) ? 1 : 0, other == f ? v : 0);
                    }
                }
            }
        }
    }

    private static void changes() {
        check.part("promise 13: a number at a time (0 or 2), in a way (0 .. 3), by the AMOUNT");
        int[][] due = {{3, 4}, {5, 4}, {-1, 4}, {3, 8}};
        for (int n = 0; n < 8; n++) {
            for (int way = 0; way <= 3; way++) {
                for (int time = 0; time <= 2; time += 2) {
                    PlanJudge x = oneAction();
                    x.amount(3, 4);
                    x.change(0, time, n, way);
                    x.amount(1, 2);
                    x.number(n);
                    x.amount(time == 0 ? due[way][0] : 1, time == 0 ? due[way][1] : 2);
                    x.compare(0, 1, n, 2);
                    stepOf(x, 0, 1);
                    check.fault("number " + n + ", way " + way + " at " + time, x, x.judge(), 0, -1);
                    for (int other = 0; other < 8; other++) {
                        check.fraction(x, 2, other, other == n ? due[way][0] : 0, other == n ? due[way][1] : 1);
                    }
                }
            }
        }
    }

    private static void sixChanges() {
        check.part("promises 12 and 13: it has six changes");
        for (int ofFacts = 0; ofFacts <= 6; ofFacts++) {
            PlanJudge x = Check.objectWith(2, 3);
            for (int i = 0; i < 6; i++) {
                int each = i;
                int time = i % 2 == 0 ? 2 : 0;
                boolean fact = i < ofFacts;
                check.throwsNothing("change " + i,
                        fact ? () -> x.make(0, time, each, true) : () -> x.change(0, time, each, 0));
            }
            check.throwsState("a seventh fact beside " + ofFacts, () -> x.make(0, 0, 15, true));
            check.throwsState("a seventh number beside " + ofFacts, () -> x.change(0, 0, 7, 0));
            check.throwsNothing("the other action's fact", () -> x.make(1, 0, 15, true));
            check.throwsNothing("the other action's number", () -> x.change(1, 0, 7, 0));
            stepOf(x, 0, 1);
            check.same("judge()", x.judge(), 0);
            for (int i = 0; i < 6; i++) {
                check.same("fact " + i, x.holds(i) ? 1 : 0, i < ofFacts ? 1 : 0);
                check.fraction(x, 2, i, i < ofFacts ? 0 : 3, 1);
            }
        }
    }

    private static void oncePerTime() {
        check.part("promises 12 and 13: or changes this fact, or number, at this time already");
        for (int time = 0; time <= 2; time += 2) {
            int t = time;
            PlanJudge x = Check.objectWith(2, 1);
            x.make(0, t, 7, true);
            x.change(0, t, 7, 1);
            check.throwsState("fact 7 again", () -> x.make(0, t, 7, true));
            check.throwsState("fact 7 to false", () -> x.make(0, t, 7, false));
            check.throwsState("number 7 again", () -> x.change(0, t, 7, 1));
            check.throwsState("number 7 in another way", () -> x.change(0, t, 7, 3));
            check.throwsNothing("fact 7 at the other time", () -> x.make(0, 2 - t, 7, false));
            check.throwsNothing("number 7 at the other time", () -> x.change(0, 2 - t, 7, 1));
            check.throwsNothing("fact 6", () -> x.make(0, t, 6, true));
            check.throwsNothing("number 6", () -> x.change(0, t, 6, 1));
            check.throwsNothing("fact 7 of the other action", () -> x.make(1, t, 7, false));
            check.throwsNothing("number 7 of the other action", () -> x.change(1, t, 7, 0));
            stepOf(x, 0, 1);
            check.same("judge()", x.judge(), 0);
            check.so("fact 7 as the end makes it", x.holds(7) == (t == 2));
            check.fraction(x, 2, 7, 2, 1);
        }
    }

    private static void durations() {
        check.part("promise 14: least (0) or greatest (1) is the AMOUNT (n = -1), or number n times it");
        for (int which = 0; which <= 1; which++) {
            for (int n = -1; n < 8; n++) {
                for (int value = 0; value < 3; value++) {
                    PlanJudge x = oneAction();
                    x.amount(n == -1 ? 1 : 4, 999);
                    x.last(0, which, n);
                    x.amount(1, 4);
                    x.number(n == -1 ? 0 : n);
                    x.amount(NEIGHBOURS[value][0], NEIGHBOURS[value][1]);
                    x.step(0);
                    boolean met = which == 0 ? value >= 1 : value <= 1;
                    check.fault("which " + which + ", n " + n + ", " + value, x, x.judge(), met ? 0 : 3, met ? -1 : 0);
                }
            }
        }
    }

    private static void noDurations() {
        check.part("promise 14: or (n = -2) there is none");
        for (int times = 0; times < 2; times++) {
            PlanJudge x = oneAction();
            x.amount(7, 1);
            if (times == 1) {
                x.last(0, 0, -1);
                x.last(0, 1, 0);
                x.last(0, 0, -2);
                x.last(0, 1, -2);
            }
            x.amount(1, 1000);
            x.step(0);
            x.amount(100000, 1);
            x.step(0);
            check.fault(times == 0 ? "none at first" : "none any more", x, x.judge(), 0, -1);
        }
        PlanJudge x = oneAction();
        x.amount(7, 1);
        x.last(0, 0, -1);
        x.last(0, 1, -1);
        x.last(0, 0, -2);
        x.amount(8, 1);
        x.step(0);
        check.fault("the other one stays", x, x.judge(), 3, 0);
    }

    private static void twelveSteps() {
        check.part("promise 15: a new step: its number; there are 12");
        PlanJudge x = Check.objectWith(12, 1);
        for (int round = 0; round < 2; round++) {
            for (int s = 0; s < 12; s++) {
                check.same("step()", x.step(11 - s), s);
            }
            check.throwsState("step() the 13th time", () -> x.step(0));
            check.same("done(0)", x.done(0), 11);
            check.same("done(11)", x.done(11), 0);
            check.same("judge()", x.judge(), 0);
            x.clear();
        }
    }

    private static void shortestAndLongestSteps() {
        check.part("promise 15: begins at the MOMENT (not below 0), lasts as long as the AMOUNT (above 0)");
        int[][] least = {{0, 1}, {0, 1000}, {1, 1000}, {100000, 1}};
        for (int[] moment : least) {
            for (int[] amount : new int[][] {{1, 1000}, {1, 1}, {100000, 1}}) {
                PlanJudge x = oneAction();
                x.moment(moment[0], moment[1]);
                x.amount(amount[0], amount[1]);
                check.same("step(0)", x.step(0), 0);
                check.fraction(x, 0, 0, moment[0], moment[0] == 0 ? 1 : moment[1]);
                check.fraction(x, 1, 0, amount[0], amount[1]);
                check.same("judge()", x.judge(), 0);
            }
        }
    }

    private static void clearing() {
        check.part("promise 16: the plan has no steps, and the row no points");
        PlanJudge x = Check.objectWith(1, 1);
        for (int size : new int[] {0, 1, 12}) {
            for (int s = 0; s < size; s++) {
                x.step(0);
                x.push(2 * s);
                x.push(2 * s + 1);
            }
            x.clear();
            check.same("steps after " + size, x.count(3), 0);
            check.same("points after " + size, x.count(4), 0);
            check.same("at(0)", x.at(0), -1);
            check.same("pop()", x.pop(), -1);
            check.throwsIndex("done(0)", () -> x.done(0));
            check.throwsIndex("push(0)", () -> x.push(0));
            check.same("judge()", x.judge(), 0);
            check.same("arrange()", x.arrange(), 0);
        }
        check.same("actions stay", x.count(2), 1);
    }

    private static void rowOfAllPoints() {
        check.part("promise 18: POINT 2 s is the start of step s, 2 s + 1 its end");
        PlanJudge x = Check.objectWith(1, 1);
        for (int s = 0; s < 12; s++) {
            x.step(0);
        }
        for (int s = 11; s >= 0; s--) {
            int start = 2 * s;
            check.throwsState("push(" + (start + 1) + ") ahead of its start", () -> x.push(start + 1));
            check.throwsNothing("push(" + start + ")", () -> x.push(start));
            check.throwsState("push(" + start + ") again", () -> x.push(start));
            check.throwsNothing("push(" + (start + 1) + ")", () -> x.push(start + 1));
            check.throwsState("push(" + (start + 1) + ") again", () -> x.push(start + 1));
        }
        check.same("points", x.count(4), 24);
        check.throwsIndex("push(24)", () -> x.push(24));
        check.part("promise 24: point k of the row (from 0 on); -1 if there is none");
        check.same("at(-1)", x.at(-1), -1);
        check.same("at(0)", x.at(0), 22);
        check.same("at(23)", x.at(23), 1);
        check.same("at(24)", x.at(24), -1);
        check.part("promise 19: the last point of the row goes: which it was");
        for (int s = 0; s < 12; s++) {
            check.same("pop()", x.pop(), 2 * s + 1);
            check.same("pop()", x.pop(), 2 * s);
            check.same("at(" + (22 - 2 * s) + ")", x.at(22 - 2 * s), -1);
            for (int k = 0; k < 22 - 2 * s; k++) {
                check.same("at(" + k + ") stays", x.at(k), 22 - 2 * (k / 2) + k % 2);
            }
        }
        check.same("pop()", x.pop(), -1);
    }

    private static void rowOfNoPoints() {
        check.part("promise 19: -1 if there was none");
        PlanJudge x = Check.objectWith(1, 1);
        check.same("pop() without a plan", x.pop(), -1);
        x.step(0);
        check.same("pop() without points", x.pop(), -1);
        check.same("pop() once more", x.pop(), -1);
        check.same("points", x.count(4), 0);
        check.throwsNothing("push(0)", () -> x.push(0));
        check.same("pop()", x.pop(), 0);
        check.same("pop()", x.pop(), -1);
        check.part("promise 24: -1 if there is none");
        check.same("at(0)", x.at(0), -1);
        check.same("at(-1)", x.at(-1), -1);
        x.push(0);
        check.same("at(0)", x.at(0), 0);
        check.same("at(1)", x.at(1), -1);
    }

    private static void counts() {
        check.part("promise 22: the fault (0 at first); its point, -1 at none; actions; steps; points in the row");
        PlanJudge x = new PlanJudge();
        check.same("fault at first", x.count(0), 0);
        check.same("point at first", x.count(1), -1);
        for (int i = 1; i <= 12; i++) {
            x.action();
            check.same("actions", x.count(2), i);
        }
        x.amount(1, 1);
        for (int i = 1; i <= 12; i++) {
            x.step(11);
            check.same("steps", x.count(3), i);
            x.push(2 * i - 2);
            check.same("points", x.count(4), 2 * i - 1);
            x.push(2 * i - 1);
            check.same("points", x.count(4), 2 * i);
        }
        x.need(11, 2, 0, true);
        check.fault("judge()", x, x.judge(), 2, 1);
        x.need(11, 0, 0, true);
        check.fault("arrange()", x, x.arrange(), 2, 0);
        x.fact(0, true);
        check.fault("judge()", x, x.judge(), 0, -1);
        x.wish(0, 0);
        check.fault("arrange()", x, x.arrange(), 6, -1);
    }

    private static void stateTold() {
        check.part("promises 25 to 27: the first state before any");
        PlanJudge x = oneAction();
        x.make(0, 0, 15, true);
        x.change(0, 2, 7, 0);
        x.amount(-4, 6);
        x.number(0);
        x.fact(0, true);
        check.fraction(x, 2, 0, -2, 3);
        check.fraction(x, 2, 7, 0, 1);
        check.so("fact 0 alone", x.holds(0) && !x.holds(15));
        stepOf(x, 0, 1);
        check.so("a step is no judge()", !x.holds(15));
        x.push(0);
        check.throwsState("arrange()", x::arrange);
        check.so("nor is an arrange() that is refused", !x.holds(15));
        check.same("nor is a seek()", x.seek(2), 0);
        check.so("fact 15", !x.holds(15));
        check.part("promises 25 to 27: the state to which the latest judge() or arrange() came");
        stepOf(x, 0, 1);
        x.judge();
        check.fraction(x, 2, 0, -2, 3);
        check.fraction(x, 2, 7, 1, 1);
        check.so("facts 0 and 15", x.holds(0) && x.holds(15));
        x.clear();
        check.so("clear() leaves it", x.holds(15));
        x.fact(0, false);
        check.so("fact() leaves it", x.holds(0));
        x.arrange();
        check.so("arrange() of no steps", !x.holds(15) && !x.holds(0));
        check.fraction(x, 2, 7, 0, 1);
    }

    private static void lastOf512Calls() {
        check.part("An object is used for at most 512 calls after it has been made");
        PlanJudge x = new PlanJudge();
        for (int a = 0; a < 12; a++) {
            x.action();
        }
        x.amount(1, 1000);
        x.make(11, 2, 0, true);
        x.change(11, 2, 0, 1);
        x.wish(0, 1);
        check.same("the 17th call, seek(6)", x.seek(6), 2);
        for (int call = 18; call < 512; call++) {
            switch (call % 5) {
                case 0 -> check.same("seek(6)", x.seek(6), 2);
                case 1 -> check.same("arrange()", x.arrange(), 0);
                case 2 -> check.same("judge()", x.judge(), 0);
                case 3 -> check.same("done(0)", x.done(0), 11);
                default -> x.number(call % 8);
            }
        }
        check.same("the 512th call, seek(6)", x.seek(6), 2);
    }
}
