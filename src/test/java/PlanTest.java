/** Promises 1 to 4: a new object, plan, stage, of. */
public final class PlanTest {
    private static final Check CHECK = new Check();

    public static void main(String[] args) {
        newObject();
        plansAreNumbered();
        stagesAreCounted();
        stageEdges();
        fourStages();
        sizesTogether();
        stagesAreTold();
        CHECK.finish("PlanTest");
    }

    private static void newObject() {
        SamplingDesk desk = new SamplingDesk();
        for (int what = 0; what <= 5; what++) {
            CHECK.due("new: count(" + what + ")", desk.count(what), 0);
        }
        CHECK.due("new: up()", desk.up(), 0);
        CHECK.due("new: down()", desk.down(), 1);
        CHECK.due("new: rounded(6)", desk.rounded(6), 0);
        CHECK.due("new: forget()", desk.forget(), 0);
        for (int which = 0; which <= 3; which++) {
            CHECK.due("new: cost(" + which + ", 0)", desk.cost(which, 0), 0);
        }
        CHECK.due("new: of(0, 0, 0)", desk.of(0, 0, 0), -2);
        CHECK.due("new: rule(0)", desk.rule(0), -2);
        CHECK.due("new: about(0, 0)", desk.about(0, 0), -2);
        CHECK.due("new: search(60)", desk.search(60), 100);
        CHECK.due("new: minimal(60, 1)", desk.minimal(60, 1), -1);
    }

    private static void plansAreNumbered() {
        SamplingDesk desk = new SamplingDesk();
        for (int i = 0; i < 24; i++) {
            CHECK.due("plan() number " + i, desk.plan(), i);
        }
        CHECK.due("plan() of 24", desk.plan(), -2);
        CHECK.due("count(0) of 24", desk.count(0), 24);
        CHECK.due("stage of plan 23", desk.stage(23, 1, 0, 1), 1);
        CHECK.due("stage of plan 24", desk.stage(24, 1, 0, 1), -2);
        SamplingDesk other = new SamplingDesk();
        CHECK.due("plan() of another object", other.plan(), 0);
    }

    private static void stagesAreCounted() {
        SamplingDesk desk = new SamplingDesk();
        desk.plan();
        CHECK.due("stage, none such", desk.stage(1, 1, 0, 1), -2);
        CHECK.due("stage, below 0", desk.stage(-1, 1, 0, 1), -2);
        CHECK.due("first", desk.stage(0, 5, 0, 2), 1);
        CHECK.due("second", desk.stage(0, 5, 1, 3), 2);
        CHECK.due("third closes", desk.stage(0, 5, 2, 3), 3);
        CHECK.due("closed", desk.stage(0, 5, 2, 3), -2);
        CHECK.due("closed, open stage", desk.stage(0, 5, 2, 4), -2);
        CHECK.due("count(1)", desk.count(1), 1);
    }

    private static void stageEdges() {
        SamplingDesk desk = new SamplingDesk();
        desk.plan();
        int[][] wrong = {
            {0, 0, 1}, {-1, 0, 1}, {61, 0, 1}, {Integer.MAX_VALUE, 0, 1}, {Integer.MIN_VALUE, 0, 1},
            {1, -2, 0}, {1, -2, -1}, {1, 61, 62}, {1, 60, 60}, {1, 60, 62}, {1, 0, 0}, {1, 0, -1},
            {1, 5, 4}, {1, -1, -1}, {1, 0, 62}, {1, Integer.MAX_VALUE, Integer.MIN_VALUE},
            {1, Integer.MIN_VALUE, Integer.MAX_VALUE}, {1, 0, Integer.MIN_VALUE}, {1, 61, 61},
        };
        for (int[] w : wrong) {
            CHECK.due("stage " + w[0] + " " + w[1] + " " + w[2], desk.stage(0, w[0], w[1], w[2]), -2);
        }
        CHECK.due("no stage came", desk.of(0, 0, 0), -2);
        CHECK.due("still open", desk.count(1), 0);
        int[][] right = {{60, 60, 61}, {60, -1, 0}, {1, -1, 61}, {1, 60, 61}, {1, 0, 61}, {60, 0, 1}};
        for (int[] r : right) {
            int plan = desk.plan();
            CHECK.due("stage " + r[0] + " " + r[1] + " " + r[2], desk.stage(plan, r[0], r[1], r[2]), 1);
        }
        CHECK.due("closed ones", desk.count(1), 4);
    }

    private static void fourStages() {
        SamplingDesk desk = new SamplingDesk();
        int plan = Check.planOf(desk, 1, 0, 2, 1, 0, 2, 1, 0, 2);
        CHECK.due("fourth that is open", desk.stage(plan, 1, 0, 2), -2);
        CHECK.due("no fourth came", desk.of(plan, 3, 0), -2);
        CHECK.due("fourth that closes", desk.stage(plan, 1, 0, 1), 4);
        CHECK.due("fifth", desk.stage(plan, 1, 0, 1), -2);
    }

    private static void sizesTogether() {
        SamplingDesk desk = new SamplingDesk();
        int plan = Check.planOf(desk, 40, 0, 2);
        CHECK.due("61 together", desk.stage(plan, 21, 0, 1), -2);
        CHECK.due("60 together", desk.stage(plan, 20, 0, 2), 2);
        CHECK.due("no room left", desk.stage(plan, 1, 0, 1), -2);
        CHECK.due("never closed", desk.part(plan, 60, 1, 0), -2);
    }

    private static void stagesAreTold() {
        SamplingDesk desk = new SamplingDesk();
        int plan = Check.planOf(desk, 7, -1, 61, 3, 4, 9, 2, 60, 61);
        int[][] want = {{7, -1, 61}, {3, 4, 9}, {2, 60, 61}};
        for (int k = 0; k < 3; k++) {
            for (int what = 0; what < 3; what++) {
                CHECK.due("of " + k + " " + what, desk.of(plan, k, what), want[k][what]);
            }
        }
        CHECK.due("of, no plan", desk.of(1, 0, 0), -2);
        CHECK.due("of, plan -1", desk.of(-1, 0, 0), -2);
        CHECK.due("of, stage 3", desk.of(plan, 3, 0), -2);
        CHECK.due("of, stage -1", desk.of(plan, -1, 0), -2);
        CHECK.due("of, stage least int", desk.of(plan, Integer.MIN_VALUE, 0), -2);
        CHECK.due("of, what 3", desk.of(plan, 0, 3), -2);
        CHECK.due("of, what -1", desk.of(plan, 0, -1), -2);
    }
}
