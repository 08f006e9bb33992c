/** Tells objects what several tests need. */
final class Tell {
    private Tell() {
    }

    static PlanJudge actions(int size) {
        return Check.objectWith(size, 1);
    }

    static void step(PlanJudge x, int a, int begin, int lasts) {
        x.moment(begin, 1);
        x.amount(lasts, 1);
        x.step(a);
    }

    /** Steps of these actions, and these points in the row. */
    static void row(PlanJudge x, int[] actions, int... points) {
        x.clear();
        x.amount(1, 1);
        for (int a : actions) {
            x.step(a);
        }
        for (int point : points) {
            x.push(point);
        }
    }

    static void change(PlanJudge x, int a, int time, int n, int way, int p, int q) {
        x.amount(p, q);
        x.change(a, time, n, way);
    }

    static void bound(PlanJudge x, int a, int which, int p, int q) {
        x.amount(p, q);
        x.last(a, which, -1);
    }
}
