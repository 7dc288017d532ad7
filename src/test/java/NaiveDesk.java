import java.math.BigDecimal;
import java.math.BigInteger;
import java.math.RoundingMode;
import java.util.ArrayList;
import java.util.HashSet;
import java.util.List;
import java.util.Set;

/**
 * The document, told again as slowly and plainly as can be: parts are counted item by item with
 * BigIntegers, lots are seen anew from their items for every question, RUNS are made from what was
 * decided since the rule changed.
 */
final class NaiveDesk {
    static final class NaiveLot {
        int supplier;
        int size;
        int plan;
        int rule;
        List<Integer> items = new ArrayList<>();
    }

    static final class Seen {
        int state;
        int items;
        int defects;
        int stage;
    }

    private static final BigInteger[][] CHOSEN = new BigInteger[61][61];

    private final List<List<int[]>> plans = new ArrayList<>();
    private final List<int[]> suppliers = new ArrayList<>();
    private final List<Integer> rules = new ArrayList<>();
    private final List<Integer> changes = new ArrayList<>();
    private final List<List<Integer>> runs = new ArrayList<>();
    private final List<NaiveLot> lots = new ArrayList<>();
    private final int[][] risks = new int[2][];
    private final int[] costs = new int[4];
    private BigInteger up = BigInteger.ZERO;
    private BigInteger down = BigInteger.ONE;

    // ---- plans

    int plan() {
        if (plans.size() == 24) {
            return -2;
        }
        plans.add(new ArrayList<>());
        return plans.size() - 1;
    }

    private static boolean in(int x, int from, int to) {
        return from <= x && x <= to;
    }

    private boolean isPlan(int plan) {
        return in(plan, 0, plans.size() - 1);
    }

    private static boolean closes(int[] stage) {
        return stage[2] - stage[1] == 1;
    }

    private boolean isClosed(int plan) {
        return isPlan(plan) && plans.get(plan).stream().anyMatch(NaiveDesk::closes);
    }

    private int together(int plan) {
        return plans.get(plan).stream().mapToInt(s -> s[0]).sum();
    }

    int stage(int plan, int size, int accept, int refuse) {
        if (!isPlan(plan) || isClosed(plan)) {
            return -2;
        }
        List<int[]> stages = plans.get(plan);
        if (!in(size, 1, 60) || !in(accept, -1, 60) || !in(refuse, accept + 1, 61)) {
            return -2;
        }
        int[] stage = {size, accept, refuse};
        if (stages.size() == 4 || stages.size() == 3 && !closes(stage) || together(plan) + size > 60) {
            return -2;
        }
        stages.add(stage);
        return stages.size();
    }

    int of(int plan, int k, int what) {
        if (!isPlan(plan) || !in(k, 0, plans.get(plan).size() - 1) || !in(what, 0, 2)) {
            return -2;
        }
        return plans.get(plan).get(k)[what];
    }

    // ---- parts

    static BigInteger choose(int n, int k) {
        if (k < 0 || k > n) {
            return BigInteger.ZERO;
        }
        if (CHOSEN[n][k] == null) {
            BigInteger product = BigInteger.ONE;
            for (int i = 1; i <= k; i++) {
                product = product.multiply(BigInteger.valueOf(n - k + i)).divide(BigInteger.valueOf(i));
            }
            CHOSEN[n][k] = product;
        }
        return CHOSEN[n][k];
    }

    /** Item by item: the sums over all orders of taken, items of stages, defective items let out. */
    private BigInteger[] sums(List<int[]> stages, int n, int d) {
        BigInteger[] sums = {BigInteger.ZERO, BigInteger.ZERO, BigInteger.ZERO};
        long[] open = new long[n + 2];
        open[0] = 1;
        int seen = 0;
        int end = 0;
        for (int[] stage : stages) {
            end += stage[0];
            for (; seen < end; ) {
                seen++;
                long[] next = new long[n + 2];
                for (int x = 0; x <= n; x++) {
                    next[x] += open[x];
                    next[x + 1] += open[x];
                }
                for (int x = 0; x <= n + 1; x++) {
                    boolean refused = x >= stage[2];
                    boolean taken = !refused && seen == end && x <= stage[1];
                    if (refused || taken) {
                        BigInteger orders = BigInteger.valueOf(next[x]).multiply(choose(n - seen, d - x));
                        sums[1] = sums[1].add(orders.multiply(BigInteger.valueOf(end)));
                        if (taken) {
                            sums[0] = sums[0].add(orders);
                            sums[2] = sums[2].add(orders.multiply(BigInteger.valueOf(d - x)));
                        }
                        next[x] = 0;
                    }
                }
                open = next;
            }
        }
        return sums;
    }

    private boolean isReady(int plan, int n) {
        return isClosed(plan) && in(n, 1, 60) && together(plan) <= n;
    }

    int part(int plan, int n, int d, int what) {
        if (!isReady(plan, n) || !in(d, 0, n) || !in(what, 0, 2)) {
            return -2;
        }
        up = sums(plans.get(plan), n, d)[what];
        down = choose(n, d).multiply(BigInteger.valueOf(what == 2 ? n : 1));
        BigInteger common = up.gcd(down);
        up = up.divide(common);
        down = down.divide(common);
        return 1;
    }

    long up() {
        return up.longValueExact();
    }

    long down() {
        return down.longValueExact();
    }

    long rounded(int places) {
        if (!in(places, 0, 6)) {
            return -2;
        }
        BigDecimal scaled = new BigDecimal(up).movePointRight(places);
        return scaled.divide(new BigDecimal(down), 0, RoundingMode.HALF_EVEN).longValueExact();
    }

    int compare(int a, int b, int n, int d) {
        if (!isReady(a, n) || !isReady(b, n) || !in(d, 0, n)) {
            return -2;
        }
        return sums(plans.get(a), n, d)[0].compareTo(sums(plans.get(b), n, d)[0]);
    }

    int crossing(int a, int b, int n, int k) {
        if (!isReady(a, n) || !isReady(b, n) || k < 0) {
            return -2;
        }
        List<Integer> found = new ArrayList<>();
        for (int d = 0; d < n; d++) {
            if (compare(a, b, n, d) * compare(a, b, n, d + 1) == -1) {
                found.add(d);
            }
        }
        return k < found.size() ? found.get(k) : -1;
    }

    // ---- risks

    int risk(int which, int d, int above, int below) {
        if (!in(which, 0, 1) || !in(d, 0, 60) || !in(below, 1, 1000) || !in(above, 0, below)) {
            return -2;
        }
        risks[which] = new int[] {d, above, below};
        return 1;
    }

    int forget() {
        int were = count(5);
        risks[0] = null;
        risks[1] = null;
        return were;
    }

    private boolean canSearch(int n) {
        if (!in(n, 1, 60)) {
            return false;
        }
        for (int[] risk : risks) {
            if (risk != null && risk[0] > n) {
                return false;
            }
        }
        return true;
    }

    private boolean holds(int n, int size, int accept) {
        for (int which = 0; which < 2; which++) {
            int[] risk = risks[which];
            if (risk != null) {
                BigInteger taken = BigInteger.ZERO;
                for (int x = 0; x <= accept; x++) {
                    taken = taken.add(choose(size, x).multiply(choose(n - size, risk[0] - x)));
                }
                int sign = taken.multiply(BigInteger.valueOf(risk[2]))
                        .compareTo(choose(n, risk[0]).multiply(BigInteger.valueOf(risk[1])));
                if (which == 0 && sign < 0 || which == 1 && sign > 0) {
                    return false;
                }
            }
        }
        return true;
    }

    private List<int[]> allThatHold(int n) {
        List<int[]> all = new ArrayList<>();
        for (int size = 1; size <= n; size++) {
            for (int accept = 0; accept <= size; accept++) {
                if (holds(n, size, accept)) {
                    all.add(new int[] {size, accept});
                }
            }
        }
        return all;
    }

    int search(int n) {
        if (!canSearch(n)) {
            return -2;
        }
        List<int[]> all = allThatHold(n);
        return all.isEmpty() ? -1 : 100 * all.get(0)[0] + all.get(0)[1];
    }

    int minimal(int n, int k) {
        if (!canSearch(n) || k < 0) {
            return -2;
        }
        List<int[]> all = allThatHold(n);
        List<int[]> least = new ArrayList<>();
        for (int[] one : all) {
            boolean beaten = false;
            for (int[] other : all) {
                beaten |= other != one && other[0] <= one[0] && other[1] <= one[1];
            }
            if (!beaten) {
                least.add(one);
            }
        }
        return k < least.size() ? 100 * least.get(k)[0] + least.get(k)[1] : -1;
    }

    // ---- suppliers and lots

    int supplier(int normal, int tight, int reduced) {
        if (!isClosed(normal) || !isClosed(tight) || !isClosed(reduced) || suppliers.size() == 8) {
            return -2;
        }
        suppliers.add(new int[] {normal, tight, reduced});
        rules.add(0);
        changes.add(0);
        runs.add(new ArrayList<>());
        return suppliers.size() - 1;
    }

    private boolean isSupplier(int supplier) {
        return in(supplier, 0, suppliers.size() - 1);
    }

    private boolean isLot(int lot) {
        return in(lot, 0, lots.size() - 1);
    }

    int lot(int supplier, int size) {
        if (!isSupplier(supplier) || lots.size() == 60) {
            return -2;
        }
        int plan = suppliers.get(supplier)[rules.get(supplier)];
        if (!isReady(plan, size)) {
            return -2;
        }
        NaiveLot lot = new NaiveLot();
        lot.supplier = supplier;
        lot.size = size;
        lot.plan = plan;
        lot.rule = rules.get(supplier);
        lots.add(lot);
        return lots.size() - 1;
    }

    private Seen look(int plan, List<Integer> items) {
        List<int[]> stages = plans.get(plan);
        Seen seen = new Seen();
        int end = stages.get(0)[0];
        int minors = 0;
        int others = 0;
        for (int which : items) {
            seen.items++;
            minors += which == 1 ? 1 : 0;
            others += which >= 2 ? 1 : 0;
            seen.defects = others + minors / 3;
            int[] stage = stages.get(seen.stage);
            if (which == 3 || seen.defects >= stage[2]) {
                seen.state = 2;
                return seen;
            }
            if (seen.items == end) {
                if (seen.defects <= stage[1]) {
                    seen.state = 1;
                    return seen;
                }
                seen.stage++;
                end += stages.get(seen.stage)[0];
            }
        }
        return seen;
    }

    private Seen look(int lot) {
        return look(lots.get(lot).plan, lots.get(lot).items);
    }

    private int settle(int lot) {
        NaiveLot changed = lots.get(lot);
        Seen seen = look(lot);
        changed.items = new ArrayList<>(changed.items.subList(0, seen.items));
        if (seen.state != 0) {
            List<Integer> run = runs.get(changed.supplier);
            run.add(0, seen.state);
            int rule = rules.get(changed.supplier);
            int next = rule;
            List<Integer> five = run.subList(0, Math.min(5, run.size()));
            List<Integer> six = run.subList(0, Math.min(6, run.size()));
            if (rule == 0 && five.stream().filter(s -> s == 2).count() >= 2) {
                next = 1;
            } else if (rule == 0 && six.size() == 6 && !six.contains(2)) {
                next = 2;
            } else if (rule == 1 && five.size() == 5 && !five.contains(2)) {
                next = 0;
            } else if (rule == 2 && seen.state == 2) {
                next = 0;
            }
            if (next != rule) {
                rules.set(changed.supplier, next);
                changes.set(changed.supplier, changes.get(changed.supplier) + 1);
                run.clear();
            }
        }
        return seen.state;
    }

    int item(int lot, int which) {
        if (!isLot(lot) || look(lot).state != 0 || !in(which, 0, 3)) {
            return -2;
        }
        lots.get(lot).items.add(which);
        return settle(lot);
    }

    int undo(int lot) {
        if (!isLot(lot) || look(lot).state != 0 || lots.get(lot).items.isEmpty()) {
            return -2;
        }
        List<Integer> items = lots.get(lot).items;
        items.remove(items.size() - 1);
        return items.size();
    }

    int correct(int lot, int i, int which) {
        if (!isLot(lot) || look(lot).state != 0) {
            return -2;
        }
        if (!in(i, 0, lots.get(lot).items.size() - 1) || !in(which, 0, 3)) {
            return -2;
        }
        lots.get(lot).items.set(i, which);
        return settle(lot);
    }

    int about(int lot, int what) {
        if (!isLot(lot) || !in(what, 0, 6)) {
            return -2;
        }
        NaiveLot one = lots.get(lot);
        Seen seen = look(lot);
        int[] all = {seen.state, seen.items, seen.defects, seen.stage, one.plan, one.size, one.rule};
        return all[what];
    }

    /** Tries all items but critical ones; lots with as many minors and majors are the same. */
    int needed(int lot) {
        if (!isLot(lot)) {
            return -2;
        }
        if (look(lot).state != 0) {
            return 0;
        }
        List<List<Integer>> now = new ArrayList<>();
        now.add(lots.get(lot).items);
        for (int more = 1; more <= 60; more++) {
            List<List<Integer>> next = new ArrayList<>();
            Set<Integer> known = new HashSet<>();
            for (List<Integer> items : now) {
                for (int which = 0; which <= 2; which++) {
                    List<Integer> longer = new ArrayList<>(items);
                    longer.add(which);
                    if (look(lots.get(lot).plan, longer).state != 0) {
                        return more;
                    }
                    int minors = (int) longer.stream().filter(c -> c == 1).count();
                    int majors = (int) longer.stream().filter(c -> c == 2).count();
                    if (known.add(100 * minors + majors)) {
                        next.add(longer);
                    }
                }
            }
            now = next;
        }
        return -99;
    }

    int rule(int supplier) {
        return isSupplier(supplier) ? rules.get(supplier) : -2;
    }

    int run(int supplier, int k) {
        if (!isSupplier(supplier) || k < 0) {
            return -2;
        }
        List<Integer> run = runs.get(supplier);
        return k < run.size() ? run.get(k) : 0;
    }

    // ---- costs and counts

    int cost(int which, int cents) {
        if (!in(which, 0, 3) || !in(cents, 0, 100000)) {
            return -2;
        }
        int before = costs[which];
        costs[which] = cents;
        return before;
    }

    long score(int supplier, int what) {
        if (!isSupplier(supplier) || !in(what, 0, 6)) {
            return -2;
        }
        long[] all = new long[7];
        for (int i = 0; i < lots.size(); i++) {
            if (lots.get(i).supplier == supplier) {
                int state = look(i).state;
                all[state == 0 ? 2 : state - 1]++;
                for (int which : lots.get(i).items) {
                    all[3]++;
                    all[4] += which == 0 ? 0 : 1;
                    all[5] += costs[which];
                }
            }
        }
        all[6] = changes.get(supplier);
        return all[what];
    }

    int count(int what) {
        int closed = 0;
        for (int i = 0; i < plans.size(); i++) {
            closed += isClosed(i) ? 1 : 0;
        }
        int decided = 0;
        for (int i = 0; i < lots.size(); i++) {
            decided += look(i).state == 0 ? 0 : 1;
        }
        int told = (risks[0] == null ? 0 : 1) + (risks[1] == null ? 0 : 1);
        int[] all = {plans.size(), closed, suppliers.size(), lots.size(), decided, told};
        return in(what, 0, 5) ? all[what] : -2;
    }
}
