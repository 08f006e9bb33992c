/** Promises 1 to 8: a new object, the AMOUNT, the MOMENT, EPSILON, the first state and the goal. */
final class TellingTest {
    private static final Check check = new Check();

    private TellingTest() {
    }

    public static void main(String[] args) {
        aNewObject();
        check.close();
    }

    private static void aNewObject() {
        check.part("promise 1");
        PlanJudge x = new PlanJudge();
        for (int what = 0; what <= 4; what++) {
            check.same("count(" + what + ")", x.count(what), what == 1 ? -1 : 0);
        }
    }
}
