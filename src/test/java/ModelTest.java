import java.util.Random;

/** Promises 1 to 26: runs of 512 calls, told beforehand by their seed, against NaiveDesk. */
public final class ModelTest {
    private static final Check CHECK = new Check();
    private static final int RUNS = 600;
    private static final int CALLS = 512;
    private static final int[] ODD = {
        Integer.MIN_VALUE, Integer.MIN_VALUE + 1, -61, -3, -2, -1, 0, 1, 2, 3, 4, 5, 6, 7, 8, 23, 24, 25, 59, 60, 61,
        62, 1000, 1001, 100000, 100001, Integer.MAX_VALUE - 1, Integer.MAX_VALUE,
    };

    private final Random random;
    private final int kind;
    private final SamplingDesk desk = new SamplingDesk();
    private final NaiveDesk naive = new NaiveDesk();
    private final StringBuilder told = new StringBuilder();

    private ModelTest(int seed) {
        random = new Random(seed);
        kind = seed % 3;
    }

    public static void main(String[] args) {
        for (int seed = 0; seed < RUNS; seed++) {
            new ModelTest(seed).play(seed);
        }
        CHECK.finish("ModelTest");
    }

    private void play(int seed) {
        for (int i = 0; i < CALLS; i++) {
            long[] answers = call(method(i));
            CHECK.due("seed " + seed + ", call " + i + ": " + told, answers[0], answers[1]);
        }
    }

    /** A run of kind 0 asks for all, 1 for plans and parts, 2 for suppliers and lots. */
    private int method(int i) {
        if (i < 40 && random.nextInt(10) < 8) {
            return random.nextInt(3) == 0 ? 0 : 1;
        }
        if (naive.count(1) > 0 && naive.count(2) == 0 && kind != 1) {
            return 13;
        }
        if (kind == 1 || kind == 0 && random.nextBoolean()) {
            return random.nextInt(4) == 0 ? random.nextInt(13) : 1 + random.nextInt(12);
        }
        int[] many = {13, 14, 14, 14, 15, 15, 15, 15, 15, 15, 15, 15, 16, 17, 18, 19, 20, 21, 22, 23, 24};
        return many[random.nextInt(many.length)];
    }

    private int any(int from, int to) {
        if (random.nextInt(60) == 0) {
            return ODD[random.nextInt(ODD.length)];
        }
        if (random.nextInt(40) == 0) {
            return random.nextBoolean() ? from - 1 : to + 1;
        }
        long choices = (long) to - from + 1;
        return choices < 1 || choices > Integer.MAX_VALUE ? from : from + random.nextInt((int) choices);
    }

    /** A CLOSED plan, if one is found soon. */
    private int anyPlan() {
        int plan = any(0, naive.count(0) - 1);
        for (int i = 0; i < 9 && !isClosed(plan) && random.nextInt(20) != 0; i++) {
            plan = any(0, naive.count(0) - 1);
        }
        return plan;
    }

    private boolean isClosed(int plan) {
        for (int k = 0; k < 4; k++) {
            if (naive.of(plan, k, 0) > 0 && naive.of(plan, k, 2) == naive.of(plan, k, 1) + 1) {
                return true;
            }
        }
        return false;
    }

    private int anySupplier() {
        return any(0, naive.count(2) - 1);
    }

    /** An undecided lot, if one is found soon. */
    private int anyLot() {
        int lots = naive.count(3);
        int lot = any(0, lots - 1);
        for (int i = 0; i < 9 && naive.about(lot, 0) != 0 && random.nextInt(20) != 0; i++) {
            lot = any(Math.max(0, lots - 5), lots - 1);
        }
        return lot;
    }

    private int anySize() {
        return random.nextBoolean() ? any(1, 60) : any(30, 60);
    }

    private int anyClass() {
        int[] many = {0, 0, 0, 0, 1, 1, 2, 2, 2, 3};
        return random.nextInt(60) == 0 ? any(0, 3) : many[random.nextInt(kind == 2 ? 9 : 10)];
    }

    private void tell(String name, int... arguments) {
        told.setLength(0);
        told.append(name).append(java.util.Arrays.toString(arguments));
    }

    private long[] call(int method) {
        if (method <= 8) {
            return callOfPlans(method);
        }
        return method <= 12 ? callOfRisks(method) : callOfLots(method);
    }

    private long[] both(long got, long want) {
        return new long[] {got, want};
    }

    private long[] callOfPlans(int method) {
        int a = anyPlan();
        int n = anySize();
        int d = random.nextInt(3) == 0 ? any(0, n) : any(0, Math.min(Math.max(n, 0), 5));
        if (method == 0) {
            tell("plan");
            return both(desk.plan(), naive.plan());
        }
        if (method == 1) {
            int size = kind == 2 ? any(1, 3) : any(1, random.nextInt(4) == 0 ? 60 : 15);
            int accept = any(-1, random.nextInt(4) == 0 ? 60 : 3);
            int refuse = random.nextInt(3) == 0 ? any(accept + 1, 61) : accept + any(1, 4);
            int plan = random.nextInt(5) == 0 ? a : naive.count(0) - 1;
            tell("stage", plan, size, accept, refuse);
            return both(desk.stage(plan, size, accept, refuse), naive.stage(plan, size, accept, refuse));
        }
        int what = any(0, 2);
        if (method == 2) {
            int k = any(0, 3);
            tell("of", a, k, what);
            return both(desk.of(a, k, what), naive.of(a, k, what));
        }
        if (method == 3) {
            tell("part", a, n, d, what);
            return both(desk.part(a, n, d, what), naive.part(a, n, d, what));
        }
        if (method == 4) {
            tell("up");
            return both(desk.up(), naive.up());
        }
        if (method == 5) {
            tell("down");
            return both(desk.down(), naive.down());
        }
        if (method == 6) {
            int places = any(0, 6);
            tell("rounded", places);
            return both(desk.rounded(places), naive.rounded(places));
        }
        int b = anyPlan();
        if (method == 7) {
            tell("compare", a, b, n, d);
            return both(desk.compare(a, b, n, d), naive.compare(a, b, n, d));
        }
        int k = any(0, 1);
        tell("crossing", a, b, n, k);
        return both(desk.crossing(a, b, n, k), naive.crossing(a, b, n, k));
    }

    private long[] callOfRisks(int method) {
        int n = anySize();
        if (method == 9) {
            int which = any(0, 1);
            int d = any(0, random.nextBoolean() ? 60 : 6);
            int below = any(1, random.nextBoolean() ? 1000 : 10);
            int above = any(0, below);
            tell("risk", which, d, above, below);
            return both(desk.risk(which, d, above, below), naive.risk(which, d, above, below));
        }
        if (method == 10) {
            tell("forget");
            return both(desk.forget(), naive.forget());
        }
        if (method == 11) {
            tell("search", n);
            return both(desk.search(n), naive.search(n));
        }
        int k = any(0, 1);
        tell("minimal", n, k);
        return both(desk.minimal(n, k), naive.minimal(n, k));
    }

    private long[] callOfLots(int method) {
        int supplier = anySupplier();
        int lot = anyLot();
        int which = anyClass();
        switch (method) {
            case 13:
                int tight = anyPlan();
                int reduced = anyPlan();
                int normal = anyPlan();
                tell("supplier", normal, tight, reduced);
                return both(desk.supplier(normal, tight, reduced), naive.supplier(normal, tight, reduced));
            case 14:
                int size = anySize();
                tell("lot", supplier, size);
                return both(desk.lot(supplier, size), naive.lot(supplier, size));
            case 15:
                tell("item", lot, which);
                return both(desk.item(lot, which), naive.item(lot, which));
            case 16:
                tell("undo", lot);
                return both(desk.undo(lot), naive.undo(lot));
            case 17:
                int i = any(0, Math.max(0, naive.about(lot, 1) - 1));
                tell("correct", lot, i, which);
                return both(desk.correct(lot, i, which), naive.correct(lot, i, which));
            case 18:
                int about = any(0, 6);
                tell("about", lot, about);
                return both(desk.about(lot, about), naive.about(lot, about));
            case 19:
                tell("needed", lot);
                return both(desk.needed(lot), naive.needed(lot));
            default:
                return callOfScores(method, supplier, which);
        }
    }

    private long[] callOfScores(int method, int supplier, int which) {
        int what = any(0, 6);
        switch (method) {
            case 20:
                tell("rule", supplier);
                return both(desk.rule(supplier), naive.rule(supplier));
            case 21:
                int k = any(0, 6);
                tell("run", supplier, k);
                return both(desk.run(supplier, k), naive.run(supplier, k));
            case 22:
                int cents = any(0, 100000);
                tell("cost", which, cents);
                return both(desk.cost(which, cents), naive.cost(which, cents));
            case 23:
                tell("score", supplier, what);
                return both(desk.score(supplier, what), naive.score(supplier, what));
            default:
                tell("count", what);
                return both(desk.count(what), naive.count(what));
        }
    }
}
