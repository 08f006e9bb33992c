import java.lang.reflect.InvocationTargetException;
import java.lang.reflect.Method;
import java.util.ArrayList;
import java.util.Arrays;
import java.util.HashMap;
import java.util.List;
import java.util.Map;
import java.util.Random;

/** Promises 1 to 27: the same random runs of calls, from fixed seeds, on PlanJudge and on PlainJudge. */
final class RandomTest {
    /** What an object answers to later calls is free. */
    private static final int MOST_CALLS = 512;
    private static final Map<String, Method> FAST = methods(PlanJudge.class);
    private static final Map<String, Method> PLAIN = methods(PlainJudge.class);
    private static final int[][] SMALL = {{1, 1}, {2, 1}, {3, 1}, {1, 2}, {1, 3}, {3, 2}, {5, 1}, {0, 1}, {-1, 1}, {4, 2}};
    private static final int[][] TINY = {{1, 1000}, {1, 500}, {1, 999}, {3, 1000}, {1, 250}, {1, 997}, {0, 7}, {1, 100}};
    private static final int[][] LARGE = {{100000, 1}, {99991, 997}, {-100000, 1}, {10000, 1}, {10001, 1}, {1, 991},
        {9999, 1000}, {20000, 2}, {-7, 1000}, {100000, 999}};

    private final Random random;
    private final PlanJudge fast = new PlanJudge();
    private final PlainJudge plain = new PlainJudge();
    private final List<String> calls = new ArrayList<>();
    private final int facts;
    private final int firstFact;
    private final int numbers;
    private final int firstNumber;
    private final int wildness;
    private final int[] answers;
    private boolean failed;

    private RandomTest(long seed, int[] answers) {
        random = new Random(seed);
        facts = 1 + random.nextInt(4);
        firstFact = random.nextInt(17 - facts);
        numbers = 1 + random.nextInt(3);
        firstNumber = random.nextInt(9 - numbers);
        wildness = random.nextInt(3);
        this.answers = answers;
    }

    public static void main(String[] args) {
        int runs = args.length > 0 ? Integer.parseInt(args[0]) : 1500;
        long firstSeed = args.length > 1 ? Long.parseLong(args[1]) : 1;
        int[] answers = new int[40];
        for (long seed = firstSeed; seed < firstSeed + runs; seed++) {
            RandomTest run = new RandomTest(seed, answers);
            run.play();
            if (run.failed) {
                System.out.println("seed " + seed + ", the calls:\n" + String.join("\n", run.calls));
                System.exit(1);
            }
        }
        System.out.println(runs + " runs; judge() faults 0 .. 6 " + Arrays.toString(Arrays.copyOfRange(answers, 0, 7))
                + ", arrange() faults 0 .. 8 " + Arrays.toString(Arrays.copyOfRange(answers, 10, 19))
                + ", seek() -1 .. 6 " + Arrays.toString(Arrays.copyOfRange(answers, 20, 28)));
        for (int must : new int[] {0, 1, 2, 3, 4, 5, 6, 10, 12, 14, 15, 16, 17, 18, 20, 21, 23, 25, 27}) {
            if (answers[must] == 0 && runs >= 1000) {
                System.out.println("no run had answer " + must);
                System.exit(1);
            }
        }
    }

    private static Map<String, Method> methods(Class<?> type) {
        Map<String, Method> all = new HashMap<>();
        for (Method m : type.getDeclaredMethods()) {
            if (java.lang.reflect.Modifier.isPublic(m.getModifiers())) {
                m.setAccessible(true);
                all.put(m.getName(), m);
            }
        }
        return all;
    }

    private static String answer(Object on, Map<String, Method> methods, String name, Object... args) {
        try {
            return String.valueOf(methods.get(name).invoke(on, args));
        } catch (InvocationTargetException e) {
            return "throws." + e.getCause().getClass().getSimpleName();
        } catch (IllegalAccessException e) {
            return "no access";
        }
    }

    private boolean isOver() {
        return failed || calls.size() >= MOST_CALLS;
    }

    private String call(String name, Object... args) {
        if (isOver()) {
            return "";
        }
        String got = answer(fast, FAST, name, args);
        String due = answer(plain, PLAIN, name, args);
        calls.add(name + Arrays.toString(args) + " " + due);
        if (!got.equals(due)) {
            failed = true;
            System.out.println(calls.get(calls.size() - 1) + " answered " + got);
        }
        return due;
    }

    private void look() {
        for (int what = -1; what <= 5; what++) {
            call("count", what);
        }
        for (int k = -1; k <= plain.count(4); k++) {
            call("at", k);
        }
        for (int s = -1; s <= plain.count(3); s++) {
            call("done", s);
            for (int what = 0; what < 2; what++) {
                call("above", what, s);
                call("below", what, s);
            }
        }
        for (int n = firstNumber; n < firstNumber + numbers; n++) {
            call("above", 2, n);
            call("below", 2, n);
        }
        for (int f = firstFact; f < firstFact + facts; f++) {
            call("holds", f);
        }
        call("above", 2, random.nextInt(10) - 1);
        call("below", 2, random.nextInt(10) - 1);
        call("holds", random.nextInt(18) - 1);
        call("above", random.nextInt(3) == 0 ? -1 : 3, random.nextInt(4) - 1);
        call("below", random.nextInt(3) == 0 ? -1 : 3, random.nextInt(4) - 1);
    }

    private void play() {
        switch (random.nextInt(3)) {
            case 0 -> playAnything();
            case 1 -> playTimes();
            default -> playSeeking();
        }
        look();
    }

    /** Durations and interferences, but hardly a need: most plans and rows come to their end. */
    private void playTimes() {
        for (int n = firstNumber; n < firstNumber + numbers; n++) {
            takeAmount();
            call("number", n);
        }
        int actions = 1 + random.nextInt(4);
        for (int a = 0; a < actions; a++) {
            call("action");
            for (int i = random.nextInt(4); i > 0; i--) {
                tellDuration(a);
            }
            for (int i = random.nextInt(4); i > 0; i--) {
                tellChange(a);
            }
        }
        for (int i = 8; i > 0 && !isOver(); i--) {
            call("clear");
            addSteps();
            answers[parse(call("judge"))]++;
            pushAll();
            arrange();
            look();
            answers[parse(call("judge"))]++;
            if (random.nextInt(4) == 0) {
                tellDuration(random.nextInt(actions));
                arrange();
            }
        }
    }

    /** A chain of facts from action to action, with random needs and changes strewn in. */
    private void playSeeking() {
        int actions = 2 + random.nextInt(2);
        for (int a = 0; a < actions; a++) {
            call("action");
        }
        int links = 1 + random.nextInt(3);
        int firstLink = Math.min(firstFact, 16 - links);
        for (int link = firstLink; link < firstLink + links; link++) {
            int a = random.nextInt(actions);
            call("make", a, 2 * random.nextInt(2), link, true);
            if (link > firstLink) {
                call("need", a, random.nextInt(3), link - 1, true);
            }
            if (random.nextInt(3) == 0) {
                call("make", a, 2, firstLink + random.nextInt(link - firstLink + 1), false);
            }
        }
        for (int i = random.nextInt(5); i > 0; i--) {
            tellAction(random.nextInt(actions));
        }
        call("wish", firstLink + links - 1, 1);
        for (int i = random.nextInt(2); i > 0; i--) {
            tellGoal();
        }
        for (int i = 3; i > 0 && !isOver(); i--) {
            int got = parse(call("seek", random.nextInt(4) == 0 ? random.nextInt(7) : 6));
            answers[21 + got]++;
            look();
            answers[parse(call("judge"))]++;
            look();
            arrange();
            tellAction(random.nextInt(actions));
        }
    }

    private void playAnything() {
        int actions = 1 + random.nextInt(random.nextInt(8) == 0 ? 12 : 3);
        for (int i = random.nextInt(4); i > 0; i--) {
            tellFirst();
        }
        for (int a = 0; a < actions; a++) {
            call("action");
            for (int i = random.nextInt(6); i > 0; i--) {
                tellAction(a);
            }
        }
        for (int i = random.nextInt(3); i > 0; i--) {
            tellGoal();
        }
        look();
        for (int i = 12 + random.nextInt(12); i > 0 && !isOver(); i--) {
            oneThing();
        }
    }

    private void oneThing() {
        int actions = plain.count(2);
        switch (random.nextInt(16)) {
            case 0 -> tellFirst();
            case 1 -> tellAction(actionOrNone());
            case 2 -> tellGoal();
            case 3, 4, 5 -> addSteps();
            case 6, 7, 8 -> {
                answers[parse(call("judge"))]++;
                look();
            }
            case 9, 10, 11 -> {
                pushAll();
                arrange();
                if (random.nextBoolean()) {
                    call("judge");
                }
                look();
            }
            case 12 -> {
                int most = actions > 3 ? random.nextInt(6) - 1 : random.nextInt(9) - 1;
                int got = parse(call("seek", actions > 6 ? Math.min(most, 3) : most));
                if (got < 7) {
                    answers[21 + got]++;
                }
                look();
                call("judge");
            }
            case 13 -> {
                call("pop");
                call("push", random.nextInt(2 * plain.count(3) + 3) - 1);
            }
            case 14 -> {
                if (random.nextInt(3) == 0) {
                    call("clear");
                }
                call("action");
            }
            default -> {
                takeAmount();
                call(random.nextInt(4) == 0 ? "epsilon" : "pop");
            }
        }
    }

    private void arrange() {
        String got = call("arrange");
        if (!got.startsWith("throws")) {
            answers[10 + parse(got)]++;
        }
    }

    private static int parse(String text) {
        return text.isEmpty() || text.startsWith("throws") ? 9 : Integer.parseInt(text);
    }

    private int actionOrNone() {
        return random.nextInt(plain.count(2) + 2) - (random.nextInt(10) == 0 ? 1 : 0);
    }

    private void takeAmount() {
        takeInHand("amount");
    }

    private void takeInHand(String name) {
        int kind = random.nextInt(10);
        if (kind == 0) {
            call(name, random.nextInt(200003) - 100001, random.nextInt(1002));
        } else {
            int[][] from = kind < 6 - wildness ? SMALL : kind < 8 ? TINY : LARGE;
            int[] chosen = from[random.nextInt(from.length)];
            call(name, chosen[0], chosen[1]);
        }
    }

    private int factOrNone() {
        return random.nextInt(40) == 0 ? (random.nextBoolean() ? 16 : -1) : firstFact + random.nextInt(facts);
    }

    private int numberOrNone() {
        return random.nextInt(40) == 0 ? (random.nextBoolean() ? 8 : -1) : firstNumber + random.nextInt(numbers);
    }

    private void tellFirst() {
        if (random.nextBoolean()) {
            call("fact", factOrNone(), random.nextBoolean());
        } else {
            takeAmount();
            call("number", numberOrNone());
        }
    }

    private void tellGoal() {
        if (random.nextInt(3) > 0) {
            call("wish", factOrNone(), random.nextInt(40) == 0 ? 2 : random.nextInt(3) - 1);
        } else {
            takeAmount();
            call("want", numberOrNone(), random.nextInt(7) - 1);
        }
    }

    private int timeOrNone() {
        return random.nextInt(40) == 0 ? (random.nextBoolean() ? 3 : -1) : random.nextInt(3);
    }

    private void tellAction(int a) {
        switch (random.nextInt(7)) {
            case 0 -> call("need", a, timeOrNone(), factOrNone(), random.nextBoolean());
            case 1 -> {
                takeAmount();
                call("compare", a, timeOrNone(), numberOrNone(), random.nextInt(random.nextInt(9) == 0 ? 6 : 5));
            }
            case 2, 3, 4, 5 -> tellChange(a);
            default -> tellDuration(a);
        }
    }

    private void tellChange(int a) {
        int time = random.nextInt(20) == 0 ? 1 : 2 * random.nextInt(2);
        if (random.nextBoolean()) {
            call("make", a, time, factOrNone(), random.nextBoolean());
        } else {
            takeAmount();
            call("change", a, time, numberOrNone(), random.nextInt(random.nextInt(20) == 0 ? 5 : 4));
        }
    }

    private void tellDuration(int a) {
        takeAmount();
        int n = random.nextInt(numbers + 2) - 2;
        call("last", a, random.nextInt(random.nextInt(20) == 0 ? 3 : 2),
                random.nextInt(20) == 0 ? -3 : n < 0 ? n : firstNumber + n);
    }

    private void addSteps() {
        for (int i = random.nextInt(random.nextInt(6) == 0 ? 13 : 4); i > 0; i--) {
            takeInHand("moment");
            takeAmount();
            call("step", actionOrNone());
        }
    }

    private void pushAll() {
        if (random.nextInt(4) == 0) {
            while (plain.count(4) > 0 && !isOver()) {
                call("pop");
            }
        }
        int points = 2 * plain.count(3);
        for (int tries = 0; tries < 60 * points && plain.count(4) < points && !isOver(); tries++) {
            int point = random.nextInt(points);
            boolean wrong = random.nextInt(200) == 0;
            if (wrong || isOpenTo(point)) {
                call("push", point);
            }
        }
    }

    private boolean isOpenTo(int point) {
        boolean start = false;
        for (int k = 0; k < plain.count(4); k++) {
            if (plain.at(k) == point) {
                return false;
            }
            start |= plain.at(k) == point - 1;
        }
        return point % 2 == 0 || start;
    }
}
