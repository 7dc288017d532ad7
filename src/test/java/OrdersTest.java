import java.util.ArrayList;
import java.util.List;
import java.util.Random;

/** Promises 5, 9, 10, 13 and 14 against all orders of small lots, and of large ones by BigInteger. */
public final class OrdersTest {
    private static final Check CHECK = new Check();

    public static void main(String[] args) {
        Random random = new Random(7);
        for (int i = 0; i < 400; i++) {
            smallLots(anyPlan(random, 9));
        }
        for (int i = 0; i < 60; i++) {
            largeLots(anyPlan(random, 60), anyPlan(random, 60));
        }
        for (int i = 0; i < 40; i++) {
            searches(random);
        }
        CHECK.finish("OrdersTest");
    }

    /** STAGES whose SIZES are so many together, or fewer; the last one closes. */
    private static int[] anyPlan(Random random, int most) {
        int stages = 1 + random.nextInt(4);
        List<Integer> numbers = new ArrayList<>();
        for (int k = 0; k < stages; k++) {
            int accept = random.nextInt(most / 2) - 1;
            boolean last = k == stages - 1;
            numbers.add(1 + random.nextInt(Math.max(1, most / stages)));
            numbers.add(accept);
            numbers.add(last ? accept + 1 : accept + 2 + random.nextInt(3));
        }
        return numbers.stream().mapToInt(x -> x).toArray();
    }

    private static void smallLots(int[] stages) {
        SamplingDesk desk = new SamplingDesk();
        int plan = Check.planOf(desk, stages);
        int together = 0;
        for (int i = 0; i < stages.length; i += 3) {
            together += stages[i];
        }
        for (int n = together; n <= 9; n++) {
            for (int d = 0; d <= n; d++) {
                long[] sums = sumsOfAllOrders(stages, n, d);
                for (int what = 0; what < 3; what++) {
                    desk.part(plan, n, d, what);
                    long below = sums[3] * (what == 2 ? n : 1);
                    long common = common(sums[what], below);
                    String call = "part of " + java.util.Arrays.toString(stages) + " " + n + " " + d + " " + what;
                    CHECK.due(call, Check.partOf(desk), sums[what] / common + "/" + below / common);
                }
            }
        }
    }

    private static long common(long a, long b) {
        return b == 0 ? a : common(b, a % b);
    }

    /** Taken, items of the stages, defective items let out, orders. */
    private static long[] sumsOfAllOrders(int[] stages, int n, int d) {
        long[] sums = new long[4];
        for (int order = 0; order < 1 << n; order++) {
            if (Integer.bitCount(order) == d) {
                seeOrder(stages, order, d, sums);
                sums[3]++;
            }
        }
        return sums;
    }

    private static void seeOrder(int[] stages, int order, int d, long[] sums) {
        int stage = 0;
        int end = stages[0];
        int defects = 0;
        for (int seen = 1; ; seen++) {
            defects += order >> (seen - 1) & 1;
            if (defects >= stages[stage + 2]) {
                sums[1] += end;
                return;
            }
            if (seen == end) {
                if (defects <= stages[stage + 1]) {
                    sums[0]++;
                    sums[1] += end;
                    sums[2] += d - defects;
                    return;
                }
                stage += 3;
                end += stages[stage];
            }
        }
    }

    private static void largeLots(int[] first, int[] second) {
        SamplingDesk desk = new SamplingDesk();
        NaiveDesk naive = new NaiveDesk();
        for (int[] stages : new int[][] {first, second}) {
            int plan = Check.planOf(desk, stages);
            naive.plan();
            for (int i = 0; i < stages.length; i += 3) {
                naive.stage(plan, stages[i], stages[i + 1], stages[i + 2]);
            }
        }
        for (int d = 0; d <= 60; d += 3) {
            for (int what = 0; what < 3; what++) {
                desk.part(0, 60, d, what);
                naive.part(0, 60, d, what);
                CHECK.due("part of 60, " + d, Check.partOf(desk), naive.up() + "/" + naive.down());
                CHECK.due("rounded of 60, " + d, desk.rounded(d % 7), naive.rounded(d % 7));
            }
            CHECK.due("compare in 60, " + d, desk.compare(0, 1, 60, d), naive.compare(0, 1, 60, d));
        }
        for (int k = 0; k < 3; k++) {
            CHECK.due("crossing in 60, " + k, desk.crossing(0, 1, 60, k), naive.crossing(0, 1, 60, k));
        }
    }

    private static void searches(Random random) {
        SamplingDesk desk = new SamplingDesk();
        NaiveDesk naive = new NaiveDesk();
        int few = random.nextInt(5);
        int many = few + random.nextInt(20);
        int[][] risks = {{few, 500 + random.nextInt(501), 1000}, {many, random.nextInt(500), 1000}};
        for (int which = 0; which < 2; which++) {
            int[] risk = risks[which];
            CHECK.due("risk", desk.risk(which, risk[0], risk[1], risk[2]),
                    naive.risk(which, risk[0], risk[1], risk[2]));
        }
        for (int n = 54; n <= 60; n++) {
            CHECK.due("search(" + n + ")", desk.search(n), naive.search(n));
            for (int k = 0; k < 3; k++) {
                CHECK.due("minimal(" + n + ", " + k + ")", desk.minimal(n, k), naive.minimal(n, k));
            }
        }
    }
}
