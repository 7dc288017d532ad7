/** Promises 24 to 26: cost, score, count. */
public final class ScoreTest {
    private static final Check CHECK = new Check();

    public static void main(String[] args) {
        costs();
        scores();
        costsOfDecidedLots();
        counts();
        wrongInputs();
        CHECK.finish("ScoreTest");
    }

    private static void costs() {
        SamplingDesk desk = new SamplingDesk();
        for (int which = 0; which < 4; which++) {
            CHECK.due("at first", desk.cost(which, 100000 - which), 0);
            CHECK.due("then", desk.cost(which, which), 100000 - which);
            CHECK.due("then", desk.cost(which, which), which);
        }
        CHECK.due("class -1", desk.cost(-1, 5), -2);
        CHECK.due("class 4", desk.cost(4, 5), -2);
        CHECK.due("cents -1", desk.cost(1, -1), -2);
        CHECK.due("cents 100001", desk.cost(1, 100001), -2);
        CHECK.due("cents least", desk.cost(1, Integer.MIN_VALUE), -2);
        CHECK.due("still", desk.cost(1, 0), 1);
    }

    private static SamplingDesk deskWithLots() {
        SamplingDesk desk = new SamplingDesk();
        Check.planOf(desk, 4, 1, 2);
        desk.supplier(0, 0, 0);
        desk.supplier(0, 0, 0);
        for (int i = 0; i < 5; i++) {
            desk.lot(i == 3 ? 1 : 0, 10);
        }
        Check.see(desk, 0, 0, 1, 2, 1);
        Check.see(desk, 1, 0, 3);
        Check.see(desk, 2, 1);
        Check.see(desk, 3, 2, 2);
        return desk;
    }

    private static void scores() {
        SamplingDesk desk = deskWithLots();
        desk.cost(0, 1);
        desk.cost(1, 10);
        desk.cost(2, 100);
        desk.cost(3, 1000);
        long[] first = {1, 1, 2, 7, 5, 1132, 0};
        long[] second = {0, 1, 0, 2, 2, 200, 0};
        for (int what = 0; what <= 6; what++) {
            CHECK.due("score(0, " + what + ")", desk.score(0, what), first[what]);
            CHECK.due("score(1, " + what + ")", desk.score(1, what), second[what]);
        }
        desk.item(4, 3);
        CHECK.due("its rule changed", desk.score(0, 6), 1);
        CHECK.due("refused", desk.score(0, 1), 2);
        CHECK.due("undecided", desk.score(0, 2), 1);
    }

    private static void costsOfDecidedLots() {
        SamplingDesk desk = deskWithLots();
        CHECK.due("nothing", desk.score(0, 5), 0);
        desk.cost(3, 100000);
        CHECK.due("of a decided lot", desk.score(0, 5), 100000);
        desk.cost(3, 99999);
        CHECK.due("anew", desk.score(0, 5), 99999);
    }

    private static void counts() {
        SamplingDesk desk = deskWithLots();
        desk.plan();
        desk.stage(1, 4, 1, 3);
        desk.risk(0, 0, 1, 2);
        int[] want = {2, 1, 2, 5, 3, 1};
        for (int what = 0; what <= 5; what++) {
            CHECK.due("count(" + what + ")", desk.count(what), want[what]);
        }
    }

    private static void wrongInputs() {
        SamplingDesk desk = deskWithLots();
        int[] wrong = {-1, 7, Integer.MIN_VALUE, Integer.MAX_VALUE};
        for (int w : wrong) {
            CHECK.due("score(0, " + w + ")", desk.score(0, w), -2);
            CHECK.due("score(" + w + ", 0)", desk.score(w, 0), -2);
            CHECK.due("count(" + w + ")", desk.count(w), -2);
        }
        CHECK.due("score(2, 6)", desk.score(2, 6), -2);
        CHECK.due("count(6)", desk.count(6), -2);
    }
}
