/** Promises 5 to 8: part, up, down, rounded. */
public final class PartTest {
    private static final Check CHECK = new Check();

    public static void main(String[] args) {
        singlePlan();
        doublePlan();
        laterStageRefusesSooner();
        alwaysAndNever();
        allGoodAndAllDefective();
        largestNumbers();
        halvesGoToTheEven();
        placesOfRounded();
        wrongInputsOfPart();
        CHECK.finish("PartTest");
    }

    private static void parts(SamplingDesk desk, int plan, int n, int d, String... want) {
        for (int what = 0; what < 3; what++) {
            String call = "part(" + plan + ", " + n + ", " + d + ", " + what + ")";
            CHECK.due(call, desk.part(plan, n, d, what), 1);
            CHECK.due(call + " is", Check.partOf(desk), want[what]);
        }
    }

    private static void singlePlan() {
        SamplingDesk desk = new SamplingDesk();
        parts(desk, Check.planOf(desk, 3, 0, 1), 10, 2, "7/15", "3/1", "7/75");
        parts(desk, Check.planOf(desk, 2, 1, 2), 4, 2, "5/6", "2/1", "1/4");
    }

    private static void doublePlan() {
        SamplingDesk desk = new SamplingDesk();
        // Of 15 orders: 6 taken and 1 refused at the first end, 4 taken and 4 refused at the second.
        parts(desk, Check.planOf(desk, 2, 0, 2, 2, 1, 2), 6, 2, "2/3", "46/15", "8/45");
        // A first STAGE that never takes.
        parts(desk, Check.planOf(desk, 1, -1, 2, 1, 0, 1), 3, 1, "1/3", "2/1", "1/9");
    }

    private static void laterStageRefusesSooner() {
        SamplingDesk desk = new SamplingDesk();
        parts(desk, Check.planOf(desk, 2, 0, 3, 2, 0, 1), 4, 1, "1/2", "3/1", "1/8");
    }

    private static void alwaysAndNever() {
        SamplingDesk desk = new SamplingDesk();
        int never = Check.planOf(desk, 4, -1, 0);
        int always = Check.planOf(desk, 4, 60, 61);
        for (int d = 0; d <= 8; d += 4) {
            parts(desk, never, 8, d, "0/1", "4/1", "0/1");
        }
        parts(desk, always, 8, 8, "1/1", "4/1", "1/2");
        parts(desk, always, 8, 4, "1/1", "4/1", "1/4");
        parts(desk, always, 4, 4, "1/1", "4/1", "0/1");
    }

    private static void allGoodAndAllDefective() {
        SamplingDesk desk = new SamplingDesk();
        int plan = Check.planOf(desk, 1, 0, 1);
        parts(desk, plan, 3, 0, "1/1", "1/1", "0/1");
        parts(desk, plan, 3, 3, "0/1", "1/1", "0/1");
        parts(desk, plan, 1, 0, "1/1", "1/1", "0/1");
        parts(desk, plan, 1, 1, "0/1", "1/1", "0/1");
        parts(desk, plan, 60, 0, "1/1", "1/1", "0/1");
        parts(desk, plan, 60, 60, "0/1", "1/1", "0/1");
    }

    private static void largestNumbers() {
        SamplingDesk desk = new SamplingDesk();
        parts(desk, Check.planOf(desk, 60, 30, 31), 60, 30, "1/1", "60/1", "0/1");
        parts(desk, Check.planOf(desk, 60, 29, 30), 60, 30, "0/1", "60/1", "0/1");
        parts(desk, Check.planOf(desk, 1, 60, 61), 60, 30, "1/1", "1/1", "59/120");
        // All but the order in which the first 30 are the defective ones.
        desk.part(Check.planOf(desk, 30, 29, 30), 60, 30, 0);
        CHECK.due("up", desk.up(), 118264581564861423L);
        CHECK.due("down", desk.down(), 118264581564861424L);
        CHECK.due("rounded(6)", desk.rounded(6), 1000000);
    }

    private static void halvesGoToTheEven() {
        SamplingDesk desk = new SamplingDesk();
        rounds(desk, Check.planOf(desk, 1, 0, 1), 2, 1, 0, "1/2", 0, 0);
        rounds(desk, Check.planOf(desk, 1, 0, 2, 1, 0, 1), 2, 1, 1, "3/2", 0, 2);
        rounds(desk, Check.planOf(desk, 2, 0, 2, 1, 0, 1), 4, 1, 1, "5/2", 0, 2);
        rounds(desk, Check.planOf(desk, 3, 0, 2, 1, 0, 1), 6, 1, 1, "7/2", 0, 4);
        rounds(desk, Check.planOf(desk, 1, 0, 1), 4, 3, 0, "1/4", 1, 2);
        rounds(desk, Check.planOf(desk, 1, 0, 1), 4, 1, 0, "3/4", 1, 8);
        rounds(desk, Check.planOf(desk, 1, 0, 1), 8, 7, 0, "1/8", 2, 12);
        rounds(desk, Check.planOf(desk, 1, 0, 1), 8, 5, 0, "3/8", 2, 38);
        rounds(desk, Check.planOf(desk, 1, 0, 1), 32, 31, 0, "1/32", 4, 312);
    }

    private static void rounds(SamplingDesk desk, int plan, int n, int d, int what, String part, int places,
            long want) {
        desk.part(plan, n, d, what);
        CHECK.due("part to round", Check.partOf(desk), part);
        CHECK.due(part + " to " + places, desk.rounded(places), want);
    }

    private static void placesOfRounded() {
        SamplingDesk desk = new SamplingDesk();
        int plan = Check.planOf(desk, 1, 0, 1);
        desk.part(plan, 3, 1, 0);
        long[] thirds = {1, 7, 67, 667, 6667, 66667, 666667};
        for (int places = 0; places <= 6; places++) {
            CHECK.due("2/3 to " + places, desk.rounded(places), thirds[places]);
        }
        CHECK.due("places -1", desk.rounded(-1), -2);
        CHECK.due("places 7", desk.rounded(7), -2);
        CHECK.due("places least", desk.rounded(Integer.MIN_VALUE), -2);
        CHECK.due("places most", desk.rounded(Integer.MAX_VALUE), -2);
        desk.part(Check.planOf(desk, 60, 0, 1), 60, 1, 1);
        CHECK.due("60 to 6", desk.rounded(6), 60000000);
    }

    private static void wrongInputsOfPart() {
        SamplingDesk desk = new SamplingDesk();
        int plan = Check.planOf(desk, 3, 0, 2, 2, 1, 2);
        int open = Check.planOf(desk, 3, 0, 2);
        int bare = desk.plan();
        desk.part(plan, 5, 2, 0);
        String before = Check.partOf(desk);
        int[][] wrong = {
            {-1, 10, 2, 0}, {3, 10, 2, 0}, {open, 10, 2, 0}, {bare, 10, 2, 0}, {plan, 0, 0, 0},
            {plan, -1, 0, 0}, {plan, 61, 2, 0}, {plan, 10, -1, 0}, {plan, 10, 11, 0}, {plan, 4, 2, 0},
            {plan, 10, 2, -1}, {plan, 10, 2, 3}, {plan, Integer.MAX_VALUE, Integer.MAX_VALUE, 0},
            {plan, Integer.MIN_VALUE, Integer.MIN_VALUE, 0}, {Integer.MIN_VALUE, 10, 2, 0},
        };
        for (int[] w : wrong) {
            String call = "part(" + w[0] + ", " + w[1] + ", " + w[2] + ", " + w[3] + ")";
            CHECK.due(call, desk.part(w[0], w[1], w[2], w[3]), -2);
            CHECK.due(call + " leaves", Check.partOf(desk), before);
        }
        CHECK.due("as large as its SIZES", desk.part(plan, 5, 5, 1), 1);
    }
}
