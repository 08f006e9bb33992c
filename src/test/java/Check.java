import java.util.List;

/** Counts and prints the answers that are not as due; each test ends with close(). */
final class Check {
    private int wrong;
    private String part = "";

    interface Call {
        void run();
    }

    /** An object with so many actions that are told nothing, and with this AMOUNT. */
    static PlanJudge objectWith(int actions, int amount) {
        PlanJudge x = new PlanJudge();
        for (int a = 0; a < actions; a++) {
            x.action();
        }
        x.amount(amount, 1);
        return x;
    }

    void part(String name) {
        part = name;
    }

    void same(String what, long got, long due) {
        if (got != due) {
            wrong++;
            System.out.println(part + ": " + what + " answered " + got + ", due is " + due);
        }
    }

    void so(String what, boolean got) {
        same(what, got ? 1 : 0, 1);
    }

    void fraction(PlanJudge x, int what, int i, long up, long down) {
        same("above(" + what + ", " + i + ")", x.above(what, i), up);
        same("below(" + what + ", " + i + ")", x.below(what, i), down);
    }

    void fault(String what, PlanJudge x, int got, int fault, int point) {
        same(what, got, fault);
        same(what + ": count(0)", x.count(0), fault);
        same(what + ": count(1)", x.count(1), point);
    }

    void throwsNothing(String what, Call call) {
        throwsDue(what, call, "nothing");
    }

    void throwsIndex(String what, Call call) {
        throwsDue(what, call, "IndexOutOfBoundsException");
    }

    void throwsArgument(String what, Call call) {
        throwsDue(what, call, "IllegalArgumentException");
    }

    void throwsState(String what, Call call) {
        throwsDue(what, call, "IllegalStateException");
    }

    void throwsDue(String what, Call call, String due) {
        String thrown = "nothing";
        try {
            call.run();
        } catch (RuntimeException e) {
            thrown = e.getClass().getSimpleName();
        }
        if (!thrown.equals(due)) {
            wrong++;
            System.out.println(part + ": " + what + " throws " + thrown + ", due is " + due);
        }
    }

    /** Tells the first answer that differs. */
    void alike(String what, List<String> got, List<String> due) {
        int k = 0;
        while (k < got.size() && k < due.size() && got.get(k).equals(due.get(k))) {
            k++;
        }
        if (k < got.size() || k < due.size()) {
            wrong++;
            System.out.println(part + ": " + what + ", call " + k + ": " + got.subList(k, Math.min(k + 1, got.size()))
                    + ", due is " + due.subList(k, Math.min(k + 1, due.size())));
        }
    }

    void close() {
        System.out.println(wrong == 0 ? "all answers are as due" : wrong + " answers are not as due");
        if (wrong != 0) {
            System.exit(1);
        }
    }
}
