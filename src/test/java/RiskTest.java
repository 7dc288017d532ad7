/** Promises 11 to 14: risk, forget, search, minimal. */
public final class RiskTest {
    private static final Check CHECK = new Check();

    public static void main(String[] args) {
        riskEdges();
        forgetting();
        noRisks();
        aRiskIsToldAnew();
        equalPartsHold();
        noneHolds();
        defectiveAboveTheLot();
        largeLots();
        minimalOnes();
        wrongInputs();
        CHECK.finish("RiskTest");
    }

    private static void riskEdges() {
        SamplingDesk desk = new SamplingDesk();
        int[][] wrong = {
            {-1, 0, 0, 1}, {2, 0, 0, 1}, {0, -1, 0, 1}, {0, 61, 0, 1}, {0, 0, 0, 0}, {0, 0, 0, -1},
            {0, 0, 0, 1001}, {0, 0, -1, 1}, {0, 0, 2, 1}, {1, 0, 1001, 1000},
            {1, Integer.MIN_VALUE, 0, 1}, {1, 0, Integer.MIN_VALUE, 1}, {1, 0, 0, Integer.MIN_VALUE},
            {0, 0, Integer.MAX_VALUE, Integer.MAX_VALUE},
        };
        for (int[] w : wrong) {
            String call = "risk(" + w[0] + ", " + w[1] + ", " + w[2] + ", " + w[3] + ")";
            CHECK.due(call, desk.risk(w[0], w[1], w[2], w[3]), -2);
        }
        CHECK.due("none told", desk.count(5), 0);
        int[][] right = {{0, 0, 0, 1}, {1, 60, 1000, 1000}, {0, 60, 0, 1000}, {1, 0, 1, 1}};
        for (int[] r : right) {
            String call = "risk(" + r[0] + ", " + r[1] + ", " + r[2] + ", " + r[3] + ")";
            CHECK.due(call, desk.risk(r[0], r[1], r[2], r[3]), 1);
        }
        CHECK.due("both told", desk.count(5), 2);
    }

    private static void forgetting() {
        SamplingDesk desk = new SamplingDesk();
        CHECK.due("forget none", desk.forget(), 0);
        desk.risk(1, 5, 0, 1);
        desk.risk(1, 6, 0, 1);
        CHECK.due("one is told", desk.count(5), 1);
        CHECK.due("forget one", desk.forget(), 1);
        CHECK.due("none is told", desk.count(5), 0);
        desk.risk(0, 5, 0, 1);
        desk.risk(1, 5, 0, 1);
        CHECK.due("forget both", desk.forget(), 2);
        CHECK.due("forget again", desk.forget(), 0);
        CHECK.due("search behind that", desk.search(10), 100);
    }

    private static void noRisks() {
        SamplingDesk desk = new SamplingDesk();
        for (int n = 1; n <= 60; n++) {
            CHECK.due("search(" + n + ")", desk.search(n), 100);
        }
        CHECK.due("minimal(7, 0)", desk.minimal(7, 0), 100);
        CHECK.due("minimal(7, 1)", desk.minimal(7, 1), -1);
    }

    private static void aRiskIsToldAnew() {
        SamplingDesk desk = new SamplingDesk();
        desk.risk(0, 10, 1, 2);
        CHECK.due("all defective", desk.search(10), 101);
        desk.risk(0, 0, 1, 1);
        CHECK.due("none defective", desk.search(10), 100);
    }

    /** In a lot of 10 with 2 defective items (3, 0) takes 7/15, (2, 0) 28/45, (4, 0) 1/3. */
    private static void equalPartsHold() {
        SamplingDesk desk = new SamplingDesk();
        desk.risk(1, 2, 7, 15);
        CHECK.due("just as little", desk.search(10), 300);
        desk.risk(0, 2, 7, 15);
        CHECK.due("just as much, too", desk.search(10), 300);
        desk.risk(1, 2, 466, 1000);
        CHECK.due("a little less, none is between", desk.search(10), -1);
        desk.forget();
        desk.risk(1, 2, 466, 1000);
        CHECK.due("a little less", desk.search(10), 400);
        desk.risk(0, 2, 1, 3);
        CHECK.due("a third or more", desk.search(10), 400);
        desk.risk(0, 2, 334, 1000);
        // (8, 1) takes 17/45, and no smaller plan is between.
        CHECK.due("a little more than a third", desk.search(10), 801);
        desk.risk(0, 2, 333, 1000);
        CHECK.due("a little less than a third", desk.search(10), 400);
    }

    private static void noneHolds() {
        SamplingDesk desk = new SamplingDesk();
        desk.risk(1, 0, 999, 1000);
        CHECK.due("a good lot is always taken", desk.search(60), -1);
        CHECK.due("so none is minimal", desk.minimal(60, 0), -1);
        desk.risk(1, 0, 1, 1);
        CHECK.due("all of it is allowed", desk.search(60), 100);
        desk.risk(1, 1, 0, 1);
        CHECK.due("one is found by seeing all", desk.search(60), 6000);
        CHECK.due("in a lot of one", desk.search(1), 100);
        desk.risk(0, 1, 1, 1000);
        CHECK.due("but never taken", desk.search(60), -1);
    }

    private static void defectiveAboveTheLot() {
        SamplingDesk desk = new SamplingDesk();
        desk.risk(0, 30, 0, 1);
        desk.risk(1, 40, 1, 1);
        CHECK.due("both above", desk.search(29), -2);
        CHECK.due("one above", desk.search(39), -2);
        CHECK.due("minimal, one above", desk.minimal(39, 0), -2);
        CHECK.due("none above", desk.search(40), 100);
        desk.forget();
        CHECK.due("not told any more", desk.search(1), 100);
    }

    /** What these are is found by BigInteger arithmetic in OrdersTest, too. */
    private static void largeLots() {
        SamplingDesk desk = new SamplingDesk();
        desk.risk(0, 30, 1, 2);
        CHECK.due("half of them, half or more", desk.search(60), 100);
        desk.risk(1, 30, 1, 2);
        CHECK.due("half of them, just half", desk.search(60), 100);
        desk.risk(0, 30, 501, 1000);
        CHECK.due("half of them, a little more than half", desk.search(60), -1);
    }

    private static void minimalOnes() {
        SamplingDesk desk = new SamplingDesk();
        desk.risk(0, 1, 9, 10);
        desk.risk(1, 5, 1, 10);
        CHECK.due("minimal(20, 0)", desk.minimal(20, 0), 1101);
        CHECK.due("minimal(20, 1)", desk.minimal(20, 1), -1);
        CHECK.due("minimal, far", desk.minimal(20, Integer.MAX_VALUE), -1);
    }

    private static void wrongInputs() {
        SamplingDesk desk = new SamplingDesk();
        int[] sizes = {0, -1, 61, Integer.MIN_VALUE, Integer.MAX_VALUE};
        for (int n : sizes) {
            CHECK.due("search(" + n + ")", desk.search(n), -2);
            CHECK.due("minimal(" + n + ", 0)", desk.minimal(n, 0), -2);
        }
        CHECK.due("minimal(60, -1)", desk.minimal(60, -1), -2);
        CHECK.due("minimal(60, least)", desk.minimal(60, Integer.MIN_VALUE), -2);
    }
}
