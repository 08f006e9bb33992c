/** Promises 1 to 8: a new object, the AMOUNT, the MOMENT, EPSILON, the first state and the goal. */
final class TellingTest {
    private static final Check check = new Check();

    private TellingTest() {
    }

    public static void main(String[] args) {
        newObject();
        amount();
        amountIsTakenAsItIsThen();
        moment();
        epsilon();
        fact();
        number();
        wish();
        want();
        check.close();
    }

    private static void newObject() {
        check.part("promise 1");
        PlanJudge x = new PlanJudge();
        for (int what = 0; what <= 4; what++) {
            check.same("count(" + what + ")", x.count(what), what == 1 ? -1 : 0);
        }
        check.same("at(0)", x.at(0), -1);
        for (int f = 0; f < 16; f++) {
            check.so("fact " + f + " is false", !x.holds(f));
        }
        for (int n = 0; n < 8; n++) {
            check.fraction(x, 2, n, 0, 1);
        }
        check.throwsIndex("done(0)", () -> x.done(0));
        check.throwsIndex("step(0)", () -> x.step(0));
        check.same("judge()", x.judge(), 0);
        check.same("arrange()", x.arrange(), 0);
        check.same("seek(6)", x.seek(6), 0);
        new PlanJudge().fact(0, true);
        check.so("objects share nothing", !x.holds(0) && !new PlanJudge().holds(0));
        PlanJudge y = new PlanJudge();
        y.number(3);
        check.fraction(y, 2, 3, 0, 1);
        y.action();
        check.throwsArgument("step(0) with the AMOUNT 0", () -> y.step(0));
        y.amount(1, 1);
        check.same("step(0) with the MOMENT 0", y.step(0), 0);
        check.fraction(y, 0, 0, 0, 1);
    }

    private static void amount() {
        check.part("promise 2");
        PlanJudge x = new PlanJudge();
        int[][] told = {{6, 4, 3, 2}, {-6, 4, -3, 2}, {0, 1000, 0, 1}, {100000, 1, 100000, 1}, {-100000, 1000, -100, 1},
            {100000, 999, 100000, 999}, {7, 1, 7, 1}, {-1, 1000, -1, 1000}};
        for (int[] t : told) {
            x.amount(t[0], t[1]);
            x.number(0);
            check.fraction(x, 2, 0, t[2], t[3]);
        }
        x.amount(5, 7);
        int[][] wrong = {{100001, 1}, {-100001, 1}, {1, 0}, {1, -1}, {1, 1001}, {Integer.MIN_VALUE, 1},
            {Integer.MAX_VALUE, 1}, {1, Integer.MIN_VALUE}, {1, Integer.MAX_VALUE}};
        for (int[] w : wrong) {
            check.throwsArgument("amount(" + w[0] + ", " + w[1] + ")", () -> x.amount(w[0], w[1]));
            x.number(0);
            check.fraction(x, 2, 0, 5, 7);
        }
    }

    private static void amountIsTakenAsItIsThen() {
        check.part("the AMOUNT as it is then");
        PlanJudge x = new PlanJudge();
        x.action();
        x.amount(2, 1);
        x.number(0);
        x.compare(0, 0, 0, 2);
        x.change(0, 2, 0, 1);
        x.last(0, 0, -1);
        x.last(0, 1, -1);
        x.step(0);
        x.amount(4, 1);
        x.want(0, 2);
        x.amount(1, 2);
        check.same("judge()", x.judge(), 0);
        check.fraction(x, 2, 0, 4, 1);
    }

    private static void moment() {
        check.part("promise 3");
        PlanJudge x = new PlanJudge();
        x.action();
        x.amount(1, 1);
        int[][] told = {{6, 4, 3, 2}, {0, 9, 0, 1}, {100000, 1, 100000, 1}, {100000, 1000, 100, 1}, {1, 1000, 1, 1000}};
        for (int[] t : told) {
            x.moment(t[0], t[1]);
            check.fraction(x, 0, x.step(0), t[2], t[3]);
        }
        int[][] wrong = {{100001, 1}, {-100001, 1}, {1, 0}, {1, 1001}, {Integer.MIN_VALUE, 1}, {0, Integer.MIN_VALUE}};
        for (int[] w : wrong) {
            check.throwsArgument("moment(" + w[0] + ", " + w[1] + ")", () -> x.moment(w[0], w[1]));
        }
        check.fraction(x, 0, x.step(0), 1, 1000);
        check.throwsNothing("moment(-100000, 1)", () -> x.moment(-100000, 1));
        check.throwsArgument("step(0) then", () -> x.step(0));
        x.number(0);
        check.fraction(x, 2, 0, 1, 1);
    }

    /** Steps 0 and 1 interfere and begin p / q from each other. */
    private static PlanJudge twoStarts(int p, int q) {
        PlanJudge x = new PlanJudge();
        x.action();
        x.action();
        x.make(0, 0, 0, true);
        x.make(1, 0, 0, false);
        x.amount(1, 1);
        x.step(0);
        x.moment(p, q);
        x.step(1);
        return x;
    }

    private static void epsilon() {
        check.part("promise 4");
        check.same("1/1000 at first", twoStarts(1, 1000).judge(), 0);
        PlanJudge nearer = twoStarts(1, 1000);
        nearer.amount(1, 999);
        nearer.epsilon();
        check.same("judge() with EPSILON 1/999", nearer.judge(), 1);
        PlanJudge x = twoStarts(1, 2);
        check.same("judge()", x.judge(), 0);
        x.amount(1, 2);
        x.epsilon();
        check.same("judge() with EPSILON 1/2", x.judge(), 0);
        x.amount(501, 1000);
        x.epsilon();
        check.same("judge() with EPSILON 501/1000", x.judge(), 1);
        x.amount(0, 1);
        check.throwsArgument("epsilon() of 0", x::epsilon);
        x.amount(-1, 1);
        check.throwsArgument("epsilon() of -1", x::epsilon);
        check.same("judge() with EPSILON as it was", x.judge(), 1);
        check.throwsArgument("epsilon() of a new object", () -> new PlanJudge().epsilon());
    }

    private static void fact() {
        check.part("promise 5");
        PlanJudge x = new PlanJudge();
        for (int f = 0; f < 16; f++) {
            x.fact(f, true);
            check.so("fact " + f, x.holds(f));
            check.so("next fact", f == 15 || !x.holds(f + 1));
        }
        x.fact(7, false);
        check.so("fact 7 is false again", !x.holds(7) && x.holds(6) && x.holds(8));
        check.same("judge()", x.judge(), 0);
        check.so("judged from the first state", x.holds(0) && !x.holds(7));
        for (int f : new int[] {-1, 16, 32, Integer.MIN_VALUE, Integer.MAX_VALUE}) {
            check.throwsIndex("fact(" + f + ")", () -> x.fact(f, false));
        }
        x.judge();
        check.so("nothing has changed", x.holds(0) && x.holds(15) && !x.holds(7));
        x.fact(0, false);
        check.so("the latest judge()'s state stays", x.holds(0));
    }

    private static void number() {
        check.part("promise 6");
        PlanJudge x = new PlanJudge();
        for (int n = 0; n < 8; n++) {
            x.amount(n + 1, 3);
            x.number(n);
        }
        check.fraction(x, 2, 0, 1, 3);
        check.fraction(x, 2, 2, 1, 1);
        check.fraction(x, 2, 7, 8, 3);
        x.amount(-9, 6);
        x.number(7);
        check.fraction(x, 2, 7, -3, 2);
        for (int n : new int[] {-1, 8, Integer.MIN_VALUE, Integer.MAX_VALUE}) {
            check.throwsIndex("number(" + n + ")", () -> x.number(n));
        }
        check.fraction(x, 2, 0, 1, 3);
        x.judge();
        x.amount(5, 1);
        x.number(7);
        check.fraction(x, 2, 7, -3, 2);
        x.judge();
        check.fraction(x, 2, 7, 5, 1);
    }

    private static void wish() {
        check.part("promise 7");
        PlanJudge x = new PlanJudge();
        for (int f : new int[] {0, 9, 15}) {
            x.wish(f, 1);
            check.same("judge() with a false fact wished true", x.judge(), 6);
            x.fact(f, true);
            check.same("judge() with a true fact wished true", x.judge(), 0);
            x.wish(f, 0);
            check.same("judge() with a true fact wished false", x.judge(), 6);
            x.wish(f, -1);
            check.same("judge() with nothing wished", x.judge(), 0);
            x.fact(f, false);
            x.wish(f, 0);
            check.same("judge() with a false fact wished false", x.judge(), 0);
        }
        check.same("the point of none", x.count(1), -1);
        for (int f : new int[] {-1, 16, Integer.MAX_VALUE}) {
            check.throwsIndex("wish(" + f + ", 1)", () -> x.wish(f, 1));
            check.throwsIndex("wish(" + f + ", 2)", () -> x.wish(f, 2));
        }
        for (int v : new int[] {-2, 2, Integer.MIN_VALUE, Integer.MAX_VALUE}) {
            check.throwsArgument("wish(0, " + v + ")", () -> x.wish(0, v));
        }
        check.same("judge() as before", x.judge(), 0);
        x.fact(0, true);
        check.same("judge() with the wish as before", x.judge(), 6);
    }

    private static void want() {
        check.part("promise 8");
        int[][] due = {{0, 6, 6}, {0, 0, 6}, {6, 0, 6}, {6, 0, 0}, {6, 6, 0}};
        for (int how = 0; how <= 4; how++) {
            for (int n = 0; n < 8; n += 7) {
                for (int value = -1; value <= 1; value++) {
                    PlanJudge x = new PlanJudge();
                    x.amount(1, 3);
                    x.want(n, how);
                    x.amount(300 + value, 900);
                    x.number(n);
                    check.same("judge(), how " + how + ", " + value, x.judge(), due[how][value + 1]);
                    x.want(n, -1);
                    check.same("judge() with nothing wanted", x.judge(), 0);
                }
            }
        }
        PlanJudge x = new PlanJudge();
        x.amount(-1, 2);
        x.want(0, 4);
        check.same("0 is above -1/2", x.judge(), 0);
        for (int n : new int[] {-1, 8, Integer.MIN_VALUE}) {
            check.throwsIndex("want(" + n + ", 0)", () -> x.want(n, 0));
            check.throwsIndex("want(" + n + ", 5)", () -> x.want(n, 5));
        }
        x.amount(9, 1);
        for (int how : new int[] {-2, 5, Integer.MIN_VALUE, Integer.MAX_VALUE}) {
            check.throwsArgument("want(0, " + how + ")", () -> x.want(0, how));
        }
        check.same("judge() as before", x.judge(), 0);
    }
}
