/** Promises 9 and 10: compare, crossing. */
public final class CompareTest {
    private static final Check CHECK = new Check();

    public static void main(String[] args) {
        signs();
        oneCrossing();
        twoCrossings();
        aTieIsNoCrossing();
        wrongInputs();
        CHECK.finish("CompareTest");
    }

    /** In a lot of 5 plan a takes 1, 4/5, 3/5, 2/5, 1/5, 0, plan b 1, 1, 7/10, 3/10, 0, 0. */
    private static void signs() {
        SamplingDesk desk = new SamplingDesk();
        int a = Check.planOf(desk, 1, 0, 1);
        int b = Check.planOf(desk, 3, 1, 2);
        int[] want = {0, -1, -1, 1, 1, 0};
        for (int d = 0; d <= 5; d++) {
            CHECK.due("compare(a, b, 5, " + d + ")", desk.compare(a, b, 5, d), want[d]);
            CHECK.due("compare(b, a, 5, " + d + ")", desk.compare(b, a, 5, d), -want[d]);
            CHECK.due("compare(a, a, 5, " + d + ")", desk.compare(a, a, 5, d), 0);
        }
        CHECK.due("the part at hand stays", Check.partOf(desk), "0/1");
    }

    private static void oneCrossing() {
        SamplingDesk desk = new SamplingDesk();
        int a = Check.planOf(desk, 1, 0, 1);
        int b = Check.planOf(desk, 3, 1, 2);
        CHECK.due("crossing from below", desk.crossing(a, b, 5, 0), 2);
        CHECK.due("crossing from above", desk.crossing(b, a, 5, 0), 2);
        CHECK.due("no second one", desk.crossing(a, b, 5, 1), -1);
        CHECK.due("none so late", desk.crossing(a, b, 5, Integer.MAX_VALUE), -1);
        CHECK.due("none with itself", desk.crossing(a, a, 5, 0), -1);
        CHECK.due("the part at hand stays", Check.partOf(desk), "0/1");
    }

    /**
     * In a lot of 7 plan a takes 1, 1, 1, 4/35, 1/35, 0, 0, 0, plan b 1, 1, 11/21, 5/35, 0, 0, 0, 0.
     */
    private static void twoCrossings() {
        SamplingDesk desk = new SamplingDesk();
        int a = Check.planOf(desk, 3, 0, 3, 4, 2, 3);
        int b = Check.planOf(desk, 5, 1, 2);
        int[] want = {0, 0, 1, -1, 1, 0, 0, 0};
        for (int d = 0; d <= 7; d++) {
            CHECK.due("compare(a, b, 7, " + d + ")", desk.compare(a, b, 7, d), want[d]);
        }
        CHECK.due("the first one", desk.crossing(a, b, 7, 0), 2);
        CHECK.due("the second one", desk.crossing(a, b, 7, 1), 3);
        CHECK.due("the second one, other way round", desk.crossing(b, a, 7, 1), 3);
        CHECK.due("no third one", desk.crossing(a, b, 7, 2), -1);
    }

    /** In a lot of 4 the signs are 0, -1, 0, 1, 0. */
    private static void aTieIsNoCrossing() {
        SamplingDesk desk = new SamplingDesk();
        int a = Check.planOf(desk, 1, 0, 1);
        int b = Check.planOf(desk, 3, 1, 2);
        int[] want = {0, -1, 0, 1, 0};
        for (int d = 0; d <= 4; d++) {
            CHECK.due("compare(a, b, 4, " + d + ")", desk.compare(a, b, 4, d), want[d]);
        }
        CHECK.due("a tie between", desk.crossing(a, b, 4, 0), -1);
    }

    private static void wrongInputs() {
        SamplingDesk desk = new SamplingDesk();
        int a = Check.planOf(desk, 1, 0, 1);
        int b = Check.planOf(desk, 3, 1, 2);
        int open = Check.planOf(desk, 1, 0, 2);
        int[][] plansAndSize = {
            {-1, b, 5}, {3, b, 5}, {a, -1, 5}, {a, 3, 5}, {open, b, 5}, {a, open, 5}, {a, b, 0}, {a, b, 61},
            {a, b, -5}, {a, b, 2}, {b, a, 2}, {a, b, Integer.MAX_VALUE}, {a, Integer.MIN_VALUE, 5},
        };
        for (int[] w : plansAndSize) {
            String of = "(" + w[0] + ", " + w[1] + ", " + w[2] + ", 0)";
            CHECK.due("compare" + of, desk.compare(w[0], w[1], w[2], 0), -2);
            CHECK.due("crossing" + of, desk.crossing(w[0], w[1], w[2], 0), -2);
        }
        CHECK.due("compare, d -1", desk.compare(a, b, 5, -1), -2);
        CHECK.due("compare, d 6", desk.compare(a, b, 5, 6), -2);
        CHECK.due("crossing, k -1", desk.crossing(a, b, 5, -1), -2);
        CHECK.due("crossing, k least", desk.crossing(a, b, 5, Integer.MIN_VALUE), -2);
    }
}
