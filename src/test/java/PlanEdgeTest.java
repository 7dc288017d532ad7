/** Terms 1 and promises 1 to 4, sentence by sentence, up to the last value that is allowed. */
public final class PlanEdgeTest {
    private static final Check CHECK = new Check();

    public static void main(String[] args) {
        aNewObject();
        objectsAreApart();
        all512Calls();
        numbersOfPlans();
        allPlansHaveStages();
        howManyStages();
        sizes();
        sizesTogether();
        accepts();
        refuses();
        whatCloses();
        closedAtEachStage();
        whatIsTold();
        CHECK.finish("PlanEdgeTest");
    }

    private static void aNewObject() {
        CHECK.says("No plans, suppliers, lots, no RISKS; the part at hand is 0; items cost nothing.");
        Edge desk = new Edge(CHECK, SamplingDesk::new);
        desk.due("plan()", x -> x.plan(), 0);
        desk.due("up()", x -> x.up(), 0);
        desk.due("down()", x -> x.down(), 1);
        desk.due("forget()", x -> x.forget(), 0);
        desk.due("risk(0, 0, 0, 1)", x -> x.risk(0, 0, 0, 1), 1);
        desk.due("search(1)", x -> x.search(1), 100);
        desk.due("search(60)", x -> x.search(60), 100);
        desk.due("minimal(60, 0)", x -> x.minimal(60, 0), 100);
        desk.due("minimal(60, 1)", x -> x.minimal(60, 1), -1);
        for (int i = 0; i <= 6; i++) {
            int places = i;
            desk.due("rounded(" + i + ")", x -> x.rounded(places), 0);
        }
        for (int i = 0; i <= 5; i++) {
            int what = i;
            desk.due("count(" + i + ")", x -> x.count(what), 0);
        }
        for (int i = 0; i <= 3; i++) {
            int which = i;
            desk.due("cost(" + i + ", 9)", x -> x.cost(which, 9), 0);
        }
    }

    private static void objectsAreApart() {
        CHECK.says("No plans, suppliers, lots, no RISKS; the part at hand is 0; items cost nothing.");
        String before = Snapshot.behind(SamplingDesk::new, x -> { });
        SamplingDesk full = Desks.full();
        CHECK.due("a new object beside a full one", Snapshot.behind(SamplingDesk::new, x -> { }), before);
        CHECK.due("the full one", full.count(3), 60);
    }

    /** Plans and lots with all they can have, then items: the 512th call is answered as the others. */
    private static void all512Calls() {
        CHECK.says("An object is used for at most 512 calls after it has been made");
        SamplingDesk desk = new SamplingDesk();
        int calls = 0;
        for (int i = 0; i < 24; i++) {
            Check.planOf(desk, 10, 0, 9, 10, 0, 9, 10, 0, 9, 30, 20, 21);
            calls += 5;
        }
        for (int i = 0; i < 8; i++) {
            desk.supplier(i, 8 + i, 16 + i);
            calls++;
        }
        for (int i = 0; i < 60; i++) {
            desk.lot(i % 8, 60);
            calls++;
        }
        for (int i = 0; calls < 511; i++) {
            CHECK.due("item in call " + calls, desk.item(i % 60, 2), 0);
            calls++;
        }
        CHECK.due("items seen, in call 512", desk.score(0, 3), 43);
    }

    private static void numbersOfPlans() {
        CHECK.says("PLANS are numbered from 0, 24 at most.");
        SamplingDesk desk = new SamplingDesk();
        for (int i = 0; i <= 23; i++) {
            CHECK.due("plan()", desk.plan(), i);
            CHECK.due("count(0)", desk.count(0), i + 1);
        }
        for (int i = 0; i < 3; i++) {
            CHECK.due("plan(), 24 are there", desk.plan(), -2);
            CHECK.due("count(0)", desk.count(0), 24);
        }
    }

    private static void allPlansHaveStages() {
        CHECK.says("A STAGE more behind those of a plan: how many it has.");
        SamplingDesk desk = new SamplingDesk();
        for (int i = 0; i < 24; i++) {
            desk.plan();
        }
        for (int i = 0; i < 24; i++) {
            CHECK.due("stage of plan " + i, desk.stage(i, 1 + i, i, 2 + i), 1);
        }
        for (int i = 23; i >= 0; i--) {
            CHECK.due("second of plan " + i, desk.stage(i, 30 + i % 7, 1, 2), 2);
        }
        for (int i = 0; i < 24; i++) {
            CHECK.due("first SIZE of plan " + i, desk.of(i, 0, 0), 1 + i);
            CHECK.due("second SIZE of plan " + i, desk.of(i, 1, 0), 30 + i % 7);
        }
        CHECK.due("all are CLOSED", desk.count(1), 24);
    }

    private static void howManyStages() {
        CHECK.says("it has 4, or has 3 and this one would not close it");
        SamplingDesk desk = new SamplingDesk();
        int plan = desk.plan();
        CHECK.due("none is told", desk.of(plan, 0, 0), -2);
        for (int k = 0; k < 3; k++) {
            CHECK.due("STAGE that does not close", desk.stage(plan, 1, 0, 2), k + 1);
            CHECK.due("it is told", desk.of(plan, k, 0), 1);
            CHECK.due("none behind it", desk.of(plan, k + 1, 0), -2);
        }
        CHECK.due("a fourth that does not close", desk.stage(plan, 1, 0, 2), -2);
        CHECK.due("none is CLOSED", desk.count(1), 0);
        CHECK.due("a fourth that closes", desk.stage(plan, 1, 0, 1), 4);
        CHECK.due("it is told", desk.of(plan, 3, 0), 1);
        CHECK.due("it is CLOSED", desk.count(1), 1);
        CHECK.due("a fifth", desk.stage(plan, 1, 0, 1), -2);
        CHECK.due("no fifth is told", desk.of(plan, 4, 0), -2);
    }

    /** What a STAGE of a plan, new but for those that are told before it, answers. */
    private static int behind(int[] before, int size, int accept, int refuse) {
        SamplingDesk desk = new SamplingDesk();
        return desk.stage(Check.planOf(desk, before), size, accept, refuse);
    }

    private static void sizes() {
        CHECK.says("a SIZE (1 to 60)");
        int[] none = {};
        CHECK.due("SIZE 0", behind(none, 0, 0, 1), -2);
        CHECK.due("SIZE 1", behind(none, 1, 0, 1), 1);
        CHECK.due("SIZE 60", behind(none, 60, 0, 1), 1);
        CHECK.due("SIZE 61", behind(none, 61, 0, 1), -2);
        CHECK.due("SIZE 60, not closing", behind(none, 60, 0, 2), 1);
        CHECK.due("the greatest int behind 1", behind(new int[] {1, 0, 2}, Integer.MAX_VALUE, 0, 1), -2);
        CHECK.due("the greatest int behind 59", behind(new int[] {59, 0, 2}, Integer.MAX_VALUE, 0, 1), -2);
    }

    private static void sizesTogether() {
        CHECK.says("all SIZES together are 60 at most");
        CHECK.due("59 and 1", behind(new int[] {59, 0, 2}, 1, 0, 1), 2);
        CHECK.due("59 and 2", behind(new int[] {59, 0, 2}, 2, 0, 1), -2);
        CHECK.due("1 and 59", behind(new int[] {1, 0, 2}, 59, 0, 1), 2);
        CHECK.due("1 and 60", behind(new int[] {1, 0, 2}, 60, 0, 1), -2);
        CHECK.due("60 and 1", behind(new int[] {60, 0, 2}, 1, 0, 1), -2);
        CHECK.due("20, 20 and 20", behind(new int[] {20, 0, 2, 20, 0, 2}, 20, 0, 1), 3);
        CHECK.due("20, 20 and 21", behind(new int[] {20, 0, 2, 20, 0, 2}, 21, 0, 1), -2);
        int[] three = {15, 0, 2, 15, 0, 2, 15, 0, 2};
        CHECK.due("15, 15, 15 and 15", behind(three, 15, 0, 1), 4);
        CHECK.due("15, 15, 15 and 16", behind(three, 16, 0, 1), -2);
        SamplingDesk desk = new SamplingDesk();
        int plan = Check.planOf(desk, 50, 0, 2);
        CHECK.due("50 and 11", desk.stage(plan, 11, 0, 1), -2);
        CHECK.due("then 50 and 10", desk.stage(plan, 10, 0, 1), 2);
    }

    private static void accepts() {
        CHECK.says("an ACCEPT (-1 to 60)");
        int[] none = {};
        CHECK.due("-2, REFUSE -1", behind(none, 1, -2, -1), -2);
        CHECK.due("-2, REFUSE 0", behind(none, 1, -2, 0), -2);
        CHECK.due("-1, REFUSE 0", behind(none, 1, -1, 0), 1);
        CHECK.due("-1, REFUSE 61", behind(none, 1, -1, 61), 1);
        CHECK.due("60, REFUSE 61", behind(none, 1, 60, 61), 1);
        CHECK.due("61, REFUSE 62", behind(none, 1, 61, 62), -2);
        int[] three = {1, -1, 61, 1, -1, 61, 1, -1, 61};
        CHECK.due("-1 as a fourth", behind(three, 1, -1, 0), 4);
        CHECK.due("60 as a fourth", behind(three, 1, 60, 61), 4);
        CHECK.due("-2 as a fourth", behind(three, 1, -2, -1), -2);
        CHECK.due("61 as a fourth", behind(three, 1, 61, 62), -2);
        CHECK.due("an ACCEPT above its SIZE", behind(none, 2, 3, 4), 1);
        CHECK.due("an ACCEPT below the one before", behind(new int[] {2, 5, 9}, 2, 0, 1), 2);
    }

    private static void refuses() {
        CHECK.says("a REFUSE, above its ACCEPT, 61 at most");
        int[] none = {};
        for (int accept = -1; accept <= 60; accept++) {
            CHECK.due("its ACCEPT " + accept, behind(none, 1, accept, accept), -2);
            CHECK.due("1 above " + accept, behind(none, 1, accept, accept + 1), 1);
            CHECK.due("61 for " + accept, behind(none, 1, accept, 61), 1);
            CHECK.due("62 for " + accept, behind(none, 1, accept, 62), -2);
        }
        CHECK.due("0 for 0", behind(none, 1, 0, 0), -2);
        CHECK.due("-1 for -1", behind(none, 1, -1, -1), -2);
        CHECK.due("far below", behind(none, 1, 60, 0), -2);
    }

    private static void whatCloses() {
        CHECK.says("A plan is CLOSED when a STAGE has a REFUSE just 1 above its ACCEPT");
        for (int accept = -1; accept <= 59; accept++) {
            SamplingDesk desk = new SamplingDesk();
            Check.planOf(desk, 1, accept, accept + 1);
            CHECK.due("just 1 above " + accept, desk.count(1), 1);
            Check.planOf(desk, 1, accept, accept + 2);
            CHECK.due("2 above " + accept, desk.count(1), 1);
            CHECK.due("a STAGE behind that", desk.stage(1, 1, accept, accept + 1), 2);
            CHECK.due("closes it", desk.count(1), 2);
        }
        SamplingDesk last = new SamplingDesk();
        Check.planOf(last, 60, 60, 61);
        CHECK.due("60 and 61", last.count(1), 1);
    }

    private static void closedAtEachStage() {
        CHECK.says("that is its last one, no other is like that");
        for (int before = 0; before <= 3; before++) {
            SamplingDesk desk = new SamplingDesk();
            int plan = desk.plan();
            for (int k = 0; k < before; k++) {
                desk.stage(plan, 1, 0, 2);
            }
            CHECK.due("not CLOSED", desk.part(plan, 60, 0, 0), -2);
            CHECK.due("closes", desk.stage(plan, 1, 0, 1), before + 1);
            CHECK.due("CLOSED", desk.part(plan, 60, 0, 0), 1);
            CHECK.due("another that closes", desk.stage(plan, 1, 0, 1), -2);
            CHECK.due("another that does not", desk.stage(plan, 1, 0, 2), -2);
            CHECK.due("none behind it", desk.of(plan, before + 1, 0), -2);
        }
    }

    private static void whatIsTold() {
        CHECK.says("0 SIZE, 1 ACCEPT, 2 REFUSE. -2 when there is no such plan, STAGE or what"
                + " (an ACCEPT of -1 is told as -1)");
        int[] stages = {1, -1, 61, 2, 59, 61, 3, -1, 1, 54, 60, 61};
        SamplingDesk desk = new SamplingDesk();
        Check.planOf(desk, 60, -1, 0);
        int plan = Check.planOf(desk, stages);
        for (int i = 0; i < stages.length; i++) {
            CHECK.due("of STAGE " + i / 3 + ", " + i % 3, desk.of(plan, i / 3, i % 3), stages[i]);
        }
        CHECK.due("the greatest SIZE", desk.of(0, 0, 0), 60);
        CHECK.due("the least ACCEPT", desk.of(0, 0, 1), -1);
        CHECK.due("the least REFUSE", desk.of(0, 0, 2), 0);
        CHECK.due("a second STAGE of one", desk.of(0, 1, 0), -2);
    }
}
