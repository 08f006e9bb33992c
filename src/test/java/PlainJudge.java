import java.math.BigInteger;
import java.util.ArrayList;
import java.util.List;
import java.util.TreeSet;

/**
 * The document once more, as slow and as near to its words as can be: boundless fractions, no masks,
 * no taking back, each row sought is arranged from its beginning. RandomTest holds PlanJudge against it.
 */
public final class PlainJudge {
    private Fraction amount = new Fraction(0, 1);
    private Fraction moment = new Fraction(0, 1);
    private Fraction epsilon = new Fraction(1, 1000);
    private final World first = new World();
    private final int[] wishes = filled(16);
    private final int[] wants = filled(8);
    private final Fraction[] wanted = new Fraction[8];
    private final List<Act> acts = new ArrayList<>();
    private List<Step> steps = new ArrayList<>();
    private List<Integer> row = new ArrayList<>();
    private int fault;
    private int faultPoint = -1;
    private World reached;

    record Fraction(BigInteger up, BigInteger down) implements Comparable<Fraction> {
        Fraction(BigInteger up, BigInteger down) {
            BigInteger divisor = up.gcd(down);
            this.up = up.divide(divisor);
            this.down = down.divide(divisor);
        }

        Fraction(long up, long down) {
            this(BigInteger.valueOf(up), BigInteger.valueOf(down));
        }

        Fraction plus(Fraction o) {
            return new Fraction(up.multiply(o.down).add(o.up.multiply(down)), down.multiply(o.down));
        }

        Fraction minus(Fraction o) {
            return plus(new Fraction(o.up.negate(), o.down));
        }

        Fraction times(Fraction o) {
            return new Fraction(up.multiply(o.up), down.multiply(o.down));
        }

        @Override
        public int compareTo(Fraction o) {
            return up.multiply(o.down).compareTo(o.up.multiply(down));
        }

        boolean tooLong() {
            BigInteger most = BigInteger.valueOf(1000000000);
            return up.abs().compareTo(most) > 0 || down.compareTo(most) > 0;
        }

        boolean compares(int how, Fraction o) {
            int c = compareTo(o);
            return switch (how) {
                case 0 -> c < 0;
                case 1 -> c <= 0;
                case 2 -> c == 0;
                case 3 -> c >= 0;
                default -> c > 0;
            };
        }
    }

    private static final class World {
        final boolean[] facts = new boolean[16];
        final Fraction[] numbers = new Fraction[8];

        World() {
            java.util.Arrays.fill(numbers, new Fraction(0, 1));
        }

        World copy() {
            World w = new World();
            System.arraycopy(facts, 0, w.facts, 0, 16);
            System.arraycopy(numbers, 0, w.numbers, 0, 8);
            return w;
        }
    }

    private record FactNeed(int time, int f, boolean v) {
    }

    private record NumberNeed(int time, int n, int how, Fraction with) {
    }

    private record FactChange(int time, int f, boolean v) {
    }

    private record NumberChange(int time, int n, int way, Fraction by) {
    }

    private static final class Act {
        final List<FactNeed> factNeeds = new ArrayList<>();
        final List<NumberNeed> numberNeeds = new ArrayList<>();
        final List<FactChange> factChanges = new ArrayList<>();
        final List<NumberChange> numberChanges = new ArrayList<>();
        final int[] boundNumber = {-2, -2};
        final Fraction[] bound = new Fraction[2];

        boolean met(World w, int time) {
            for (FactNeed n : factNeeds) {
                if (n.time == time && w.facts[n.f] != n.v) {
                    return false;
                }
            }
            for (NumberNeed n : numberNeeds) {
                if (n.time == time && !w.numbers[n.n].compares(n.how, n.with)) {
                    return false;
                }
            }
            return true;
        }

        boolean apply(World w, int time) {
            boolean tooLong = false;
            for (FactChange c : factChanges) {
                if (c.time == time) {
                    w.facts[c.f] = c.v;
                }
            }
            for (NumberChange c : numberChanges) {
                if (c.time == time) {
                    Fraction old = w.numbers[c.n];
                    w.numbers[c.n] = switch (c.way) {
                        case 0 -> c.by;
                        case 1 -> old.plus(c.by);
                        case 2 -> old.minus(c.by);
                        default -> old.times(c.by);
                    };
                    tooLong |= w.numbers[c.n].tooLong();
                }
            }
            return !tooLong;
        }

        Fraction bound(int which, World w) {
            if (boundNumber[which] == -2) {
                return null;
            }
            return boundNumber[which] == -1 ? bound[which] : w.numbers[boundNumber[which]].times(bound[which]);
        }

        TreeSet<String> looksAt(int time) {
            TreeSet<String> all = new TreeSet<>();
            for (FactNeed n : factNeeds) {
                if (n.time == time) {
                    all.add("f" + n.f);
                }
            }
            for (NumberNeed n : numberNeeds) {
                if (n.time == time) {
                    all.add("n" + n.n);
                }
            }
            for (int n : boundNumber) {
                if (time == 0 && n >= 0) {
                    all.add("n" + n);
                }
            }
            for (NumberChange c : numberChanges) {
                if (c.time == time && c.way == 3) {
                    all.add("n" + c.n);
                }
            }
            return all;
        }

        TreeSet<String> changes(int time) {
            TreeSet<String> all = new TreeSet<>();
            for (FactChange c : factChanges) {
                if (c.time == time) {
                    all.add("f" + c.f);
                }
            }
            for (NumberChange c : numberChanges) {
                if (c.time == time) {
                    all.add("n" + c.n);
                }
            }
            return all;
        }
    }

    private static final class Step {
        final int a;
        Fraction begin;
        Fraction lasts;

        Step(int a, Fraction begin, Fraction lasts) {
            this.a = a;
            this.begin = begin;
            this.lasts = lasts;
        }
    }

    private static int[] filled(int size) {
        int[] all = new int[size];
        java.util.Arrays.fill(all, -1);
        return all;
    }

    private static void index(boolean ok) {
        if (!ok) {
            throw new IndexOutOfBoundsException();
        }
    }

    private static void argument(boolean ok) {
        if (!ok) {
            throw new IllegalArgumentException();
        }
    }

    private static void state(boolean ok) {
        if (!ok) {
            throw new IllegalStateException();
        }
    }

    private void actionIndex(int a) {
        index(a >= 0 && a < acts.size());
    }

    public void amount(int p, int q) {
        argument(p >= -100000 && p <= 100000 && q >= 1 && q <= 1000);
        amount = new Fraction(p, q);
    }

    public void moment(int p, int q) {
        argument(p >= -100000 && p <= 100000 && q >= 1 && q <= 1000);
        moment = new Fraction(p, q);
    }

    public void epsilon() {
        argument(amount.up.signum() > 0);
        epsilon = amount;
    }

    public void fact(int f, boolean v) {
        index(f >= 0 && f < 16);
        first.facts[f] = v;
    }

    public void number(int n) {
        index(n >= 0 && n < 8);
        first.numbers[n] = amount;
    }

    public void wish(int f, int v) {
        index(f >= 0 && f < 16);
        argument(v >= -1 && v <= 1);
        wishes[f] = v;
    }

    public void want(int n, int how) {
        index(n >= 0 && n < 8);
        argument(how >= -1 && how <= 4);
        wants[n] = how;
        wanted[n] = amount;
    }

    public int action() {
        state(acts.size() < 12);
        acts.add(new Act());
        return acts.size() - 1;
    }

    public void need(int a, int time, int f, boolean v) {
        actionIndex(a);
        index(f >= 0 && f < 16);
        argument(time >= 0 && time <= 2);
        state(acts.get(a).factNeeds.size() + acts.get(a).numberNeeds.size() < 8);
        acts.get(a).factNeeds.add(new FactNeed(time, f, v));
    }

    public void compare(int a, int time, int n, int how) {
        actionIndex(a);
        index(n >= 0 && n < 8);
        argument(time >= 0 && time <= 2 && how >= 0 && how <= 4);
        state(acts.get(a).factNeeds.size() + acts.get(a).numberNeeds.size() < 8);
        acts.get(a).numberNeeds.add(new NumberNeed(time, n, how, amount));
    }

    public void make(int a, int time, int f, boolean v) {
        actionIndex(a);
        index(f >= 0 && f < 16);
        argument(time == 0 || time == 2);
        state(acts.get(a).factChanges.size() + acts.get(a).numberChanges.size() < 6);
        state(!acts.get(a).changes(time).contains("f" + f));
        acts.get(a).factChanges.add(new FactChange(time, f, v));
    }

    public void change(int a, int time, int n, int way) {
        actionIndex(a);
        index(n >= 0 && n < 8);
        argument((time == 0 || time == 2) && way >= 0 && way <= 3);
        state(acts.get(a).factChanges.size() + acts.get(a).numberChanges.size() < 6);
        state(!acts.get(a).changes(time).contains("n" + n));
        acts.get(a).numberChanges.add(new NumberChange(time, n, way, amount));
    }

    public void last(int a, int which, int n) {
        actionIndex(a);
        index(n >= -2 && n < 8);
        argument(which == 0 || which == 1);
        acts.get(a).boundNumber[which] = n;
        acts.get(a).bound[which] = amount;
    }

    public int step(int a) {
        actionIndex(a);
        argument(moment.up.signum() >= 0 && amount.up.signum() > 0);
        state(steps.size() < 12);
        steps.add(new Step(a, moment, amount));
        return steps.size() - 1;
    }

    public void clear() {
        steps.clear();
        row.clear();
    }

    private Act actOf(List<Step> all, int point) {
        return acts.get(all.get(point / 2).a);
    }

    private static int timeOf(int point) {
        return point % 2 == 0 ? 0 : 2;
    }

    private Fraction momentOf(int point) {
        Step s = steps.get(point / 2);
        return point % 2 == 0 ? s.begin : s.begin.plus(s.lasts);
    }

    private boolean interfere(List<Step> all, int p, int q) {
        return spoils(all, p, q) || spoils(all, q, p) || disagree(actOf(all, p), timeOf(p), actOf(all, q), timeOf(q));
    }

    private boolean spoils(List<Step> all, int p, int q) {
        for (String what : actOf(all, p).changes(timeOf(p))) {
            if (actOf(all, q).looksAt(timeOf(q)).contains(what)) {
                return true;
            }
        }
        return false;
    }

    private static boolean disagree(Act a, int ta, Act b, int tb) {
        for (FactChange c : a.factChanges) {
            for (FactChange d : b.factChanges) {
                if (c.time == ta && d.time == tb && c.f == d.f && c.v != d.v) {
                    return true;
                }
            }
        }
        for (NumberChange c : a.numberChanges) {
            for (NumberChange d : b.numberChanges) {
                boolean bothBySteps = (c.way == 1 || c.way == 2) && (d.way == 1 || d.way == 2);
                if (c.time == ta && d.time == tb && c.n == d.n && !bothBySteps) {
                    return true;
                }
            }
        }
        return false;
    }

    private boolean goalMet(World w) {
        for (int f = 0; f < 16; f++) {
            if (wishes[f] >= 0 && w.facts[f] != (wishes[f] == 1)) {
                return false;
            }
        }
        for (int n = 0; n < 8; n++) {
            if (wants[n] >= 0 && !w.numbers[n].compares(wants[n], wanted[n])) {
                return false;
            }
        }
        return true;
    }

    private int found(int newFault, int newPoint, World w) {
        fault = newFault;
        faultPoint = newPoint;
        reached = w;
        return newFault;
    }

    public int judge() {
        TreeSet<Fraction> moments = new TreeSet<>();
        for (int p = 0; p < 2 * steps.size(); p++) {
            moments.add(momentOf(p));
        }
        World now = first.copy();
        for (Fraction t : moments) {
            List<Integer> here = new ArrayList<>();
            for (int p = 0; p < 2 * steps.size(); p++) {
                if (momentOf(p).compareTo(t) == 0) {
                    here.add(p);
                }
            }
            for (int p : here) {
                for (int q = 0; q < 2 * steps.size(); q++) {
                    Fraction before = t.minus(momentOf(q));
                    if (p != q && before.up.signum() >= 0 && before.compareTo(epsilon) < 0 && interfere(steps, p, q)) {
                        return found(1, p, now);
                    }
                }
            }
            for (int p : here) {
                if (!actOf(steps, p).met(now, timeOf(p))) {
                    return found(2, p, now);
                }
            }
            for (int p : here) {
                Fraction least = actOf(steps, p).bound(0, now);
                Fraction greatest = actOf(steps, p).bound(1, now);
                Fraction lasts = steps.get(p / 2).lasts;
                if (p % 2 == 0 && (least != null && lasts.compareTo(least) < 0
                        || greatest != null && lasts.compareTo(greatest) > 0)) {
                    return found(3, p, now);
                }
            }
            World next = now.copy();
            for (int p : here) {
                if (!actOf(steps, p).apply(next, timeOf(p))) {
                    return found(4, p, now);
                }
            }
            now = next;
            for (int s = 0; s < steps.size(); s++) {
                boolean runs = momentOf(2 * s).compareTo(t) <= 0 && momentOf(2 * s + 1).compareTo(t) > 0;
                if (runs && !actOf(steps, 2 * s).met(now, 1)) {
                    return found(5, 2 * s, now);
                }
            }
        }
        return found(goalMet(now) ? 0 : 6, -1, now);
    }

    public void push(int point) {
        index(point >= 0 && point < 2 * steps.size());
        state(!row.contains(point));
        state(point % 2 == 0 || row.contains(point - 1));
        row.add(point);
    }

    public int pop() {
        return row.isEmpty() ? -1 : row.remove(row.size() - 1);
    }

    private record Outcome(int fault, int point, World world, List<Fraction> times) {
    }

    private Outcome arranged(List<Step> all, List<Integer> points) {
        World now = first.copy();
        List<Fraction> bounds = new ArrayList<>();
        Fraction[] least = new Fraction[all.size()];
        Fraction[] greatest = new Fraction[all.size()];
        for (int k = 0; k < points.size(); k++) {
            int p = points.get(k);
            Act act = actOf(all, p);
            if (!act.met(now, timeOf(p))) {
                return new Outcome(2, p, now, null);
            }
            if (p % 2 == 0) {
                least[p / 2] = act.bound(0, now);
                greatest[p / 2] = act.bound(1, now);
                if (least[p / 2] == null || least[p / 2].compareTo(epsilon) < 0) {
                    least[p / 2] = epsilon;
                }
            }
            World next = now.copy();
            if (!act.apply(next, timeOf(p))) {
                return new Outcome(4, p, now, null);
            }
            now = next;
            for (int s = 0; s < all.size(); s++) {
                boolean runs = points.subList(0, k + 1).contains(2 * s) && !points.subList(0, k + 1).contains(2 * s + 1);
                if (runs && !actOf(all, 2 * s).met(now, 1)) {
                    return new Outcome(5, 2 * s, now, null);
                }
            }
        }
        if (!goalMet(now)) {
            return new Outcome(6, -1, now, null);
        }
        bounds.add(epsilon);
        for (int s = 0; s < all.size(); s++) {
            bounds.add(least[s]);
            if (greatest[s] != null) {
                bounds.add(greatest[s]);
            }
        }
        if (!boundsFit(bounds)) {
            return new Outcome(8, -1, now, null);
        }
        List<Fraction> times = earliest(all, points, least, greatest);
        return new Outcome(times == null ? 7 : 0, -1, now, times);
    }

    private static boolean boundsFit(List<Fraction> bounds) {
        BigInteger multiple = BigInteger.ONE;
        for (Fraction b : bounds) {
            if (b.compareTo(new Fraction(10000, 1)) > 0) {
                return false;
            }
            multiple = multiple.divide(multiple.gcd(b.down)).multiply(b.down);
        }
        return multiple.compareTo(BigInteger.valueOf(100000)) <= 0;
    }

    /** Every constraint is looked at alone, as often as there are points: then none may still ask for more. */
    private List<Fraction> earliest(List<Step> all, List<Integer> points, Fraction[] least, Fraction[] greatest) {
        List<Fraction> times = new ArrayList<>();
        for (int k = 0; k < points.size(); k++) {
            times.add(new Fraction(0, 1));
        }
        for (int round = 0; round <= points.size() + 1; round++) {
            boolean moved = false;
            for (int j = 0; j < points.size(); j++) {
                for (int k = j + 1; k < points.size(); k++) {
                    int p = points.get(j);
                    int q = points.get(k);
                    moved |= raise(times, k, times.get(j));
                    if (interfere(all, p, q)) {
                        moved |= raise(times, k, times.get(j).plus(epsilon));
                    }
                    if (p % 2 == 0 && q == p + 1) {
                        moved |= raise(times, k, times.get(j).plus(least[p / 2]));
                        if (greatest[p / 2] != null) {
                            moved |= raise(times, j, times.get(k).minus(greatest[p / 2]));
                        }
                    }
                }
            }
            if (!moved) {
                return times;
            }
        }
        return null;
    }

    private static boolean raise(List<Fraction> times, int k, Fraction to) {
        if (times.get(k).compareTo(to) >= 0) {
            return false;
        }
        times.set(k, to);
        return true;
    }

    private static void setTimes(List<Step> all, List<Integer> points, List<Fraction> times) {
        for (int s = 0; s < all.size(); s++) {
            all.get(s).begin = times.get(points.indexOf(2 * s));
            all.get(s).lasts = times.get(points.indexOf(2 * s + 1)).minus(all.get(s).begin);
        }
    }

    public int arrange() {
        state(row.size() == 2 * steps.size());
        Outcome o = arranged(steps, row);
        if (o.fault == 0) {
            setTimes(steps, row, o.times);
        }
        return found(o.fault, o.point, o.world);
    }

    public int seek(int most) {
        argument(most >= 0 && most <= 6);
        for (int events = 0; events <= most; events++) {
            if (sought(new ArrayList<>(), events)) {
                return events;
            }
        }
        return -1;
    }

    /** All rows of events, the first ones first; one is tried only when it is whole. */
    private boolean sought(List<Integer> events, int size) {
        if (events.size() == size) {
            return tried(events);
        }
        for (int e = 0; e < 12 + 6; e++) {
            events.add(e);
            if (possible(events) && sought(events, size)) {
                return true;
            }
            events.remove(events.size() - 1);
        }
        return false;
    }

    private boolean possible(List<Integer> events) {
        int begun = 0;
        for (int k = 0; k < events.size(); k++) {
            int e = events.get(k);
            if (e < 12 && e >= acts.size() || e >= 12 && (e - 12 >= begun || events.subList(0, k).contains(e))) {
                return false;
            }
            begun += e < 12 ? 1 : 0;
        }
        return true;
    }

    private boolean tried(List<Integer> events) {
        List<Step> newSteps = new ArrayList<>();
        List<Integer> newRow = new ArrayList<>();
        for (int e : events) {
            if (e < 12) {
                newRow.add(2 * newSteps.size());
                newSteps.add(new Step(e, null, null));
            } else {
                newRow.add(2 * (e - 12) + 1);
            }
        }
        if (newRow.size() != 2 * newSteps.size()) {
            return false;
        }
        Outcome o = arranged(newSteps, newRow);
        if (o.fault != 0) {
            return false;
        }
        setTimes(newSteps, newRow, o.times);
        steps = newSteps;
        row = newRow;
        return true;
    }

    public int count(int what) {
        index(what >= 0 && what <= 4);
        return new int[] {fault, faultPoint, acts.size(), steps.size(), row.size()}[what];
    }

    public int done(int s) {
        index(s >= 0 && s < steps.size());
        return steps.get(s).a;
    }

    public int at(int k) {
        return k >= 0 && k < row.size() ? row.get(k) : -1;
    }

    private Fraction asked(int what, int i) {
        argument(what >= 0 && what <= 2);
        index(i >= 0 && i < (what == 2 ? 8 : steps.size()));
        if (what == 2) {
            return (reached == null ? first : reached).numbers[i];
        }
        return what == 0 ? steps.get(i).begin : steps.get(i).lasts;
    }

    public long above(int what, int i) {
        return asked(what, i).up.longValueExact();
    }

    public long below(int what, int i) {
        return asked(what, i).down.longValueExact();
    }

    public boolean holds(int f) {
        index(f >= 0 && f < 16);
        return (reached == null ? first : reached).facts[f];
    }
}
