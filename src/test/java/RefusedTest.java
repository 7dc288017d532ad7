/**
 * "-2 is what a refused call answers; it changes nothing": each reason for -2 of each promise, alone
 * where it can stand alone, with the neighbours of what is allowed and the least and greatest ints.
 * Behind each such call all that can be asked is as it was.
 */
public final class RefusedTest {
    private static final Check CHECK = new Check();
    private static final int LEAST = Integer.MIN_VALUE;
    private static final int MOST = Integer.MAX_VALUE;
    private static final Edge NEW = new Edge(CHECK, SamplingDesk::new);
    private static final Edge SOME = new Edge(CHECK, Desks::some);
    private static final Edge FULL = new Edge(CHECK, Desks::full);

    public static void main(String[] args) {
        nothingThereYet();
        allPlacesTaken();
        stage();
        stageSizes();
        stageAcceptAndRefuse();
        of();
        part();
        rounded();
        compare();
        crossing();
        risk();
        searchAndMinimal();
        supplier();
        lot();
        item();
        undo();
        correct();
        aboutAndNeeded();
        ruleAndRun();
        cost();
        scoreAndCount();
        allIsWrong(NEW);
        allIsWrong(SOME);
        allIsWrong(FULL);
        theSnapshotTells();
        CHECK.finish("RefusedTest");
    }

    private static void nothingThereYet() {
        CHECK.says("No plans, suppliers, lots, no RISKS");
        NEW.refused("stage", x -> x.stage(0, 1, 0, 1));
        NEW.refused("of", x -> x.of(0, 0, 0));
        NEW.refused("part", x -> x.part(0, 1, 0, 0));
        NEW.refused("compare", x -> x.compare(0, 0, 1, 0));
        NEW.refused("crossing", x -> x.crossing(0, 0, 1, 0));
        NEW.refused("supplier", x -> x.supplier(0, 0, 0));
        NEW.refused("lot", x -> x.lot(0, 1));
        NEW.refused("item", x -> x.item(0, 0));
        NEW.refused("undo", x -> x.undo(0));
        NEW.refused("correct", x -> x.correct(0, 0, 0));
        NEW.refused("about", x -> x.about(0, 0));
        NEW.refused("needed", x -> x.needed(0));
        NEW.refused("rule", x -> x.rule(0));
        NEW.refused("run", x -> x.run(0, 0));
        NEW.refused("score", x -> x.score(0, 0));
        NEW.refused("the first number of a plan's -1", x -> x.of(-1, 0, 0));
    }

    private static void allPlacesTaken() {
        CHECK.says("-2 when there are 24");
        FULL.refused("plan()", x -> x.plan());
        CHECK.says("or there are 8");
        FULL.refused("supplier(0, 0, 0)", x -> x.supplier(0, 0, 0));
        new Edge(CHECK, Desks::allSuppliers).refused("supplier(9, 9, 9)", x -> x.supplier(9, 9, 9));
        CHECK.says("or there are 60");
        FULL.refused("lot(0, 60)", x -> x.lot(0, 60));
        CHECK.says("PLANS are numbered from 0, 24 at most");
        FULL.refused("of(24, 0, 0)", x -> x.of(24, 0, 0));
        FULL.refused("stage(24, 1, 0, 1)", x -> x.stage(24, 1, 0, 1));
        FULL.refused("part(24, 60, 0, 0)", x -> x.part(24, 60, 0, 0));
        CHECK.says("SUPPLIERS are numbered from 0, 8 at most");
        FULL.refused("rule(8)", x -> x.rule(8));
        FULL.refused("run(8, 0)", x -> x.run(8, 0));
        FULL.refused("score(8, 0)", x -> x.score(8, 0));
        CHECK.says("LOTS are numbered from 0, 60 at most");
        FULL.refused("item(60, 0)", x -> x.item(60, 0));
        FULL.refused("undo(60)", x -> x.undo(60));
        FULL.refused("about(60, 0)", x -> x.about(60, 0));
        FULL.refused("needed(60)", x -> x.needed(60));
        FULL.refused("correct(60, 0, 0)", x -> x.correct(60, 0, 0));
        CHECK.says("there is no such item or CLASS");
        FULL.refused("correct(59, 59, 0)", x -> x.correct(59, 59, 0));
        FULL.refused("correct(59, 60, 0)", x -> x.correct(59, 60, 0));
    }

    private static void stage() {
        CHECK.says("-2 when there is no such plan");
        SOME.outside("stage, plan", 0, 6, (x, plan) -> x.stage(plan, 1, 0, 1));
        CHECK.says("it is CLOSED");
        SOME.refused("one STAGE, another that closes", x -> x.stage(0, 1, 0, 1));
        SOME.refused("one STAGE, another that does not", x -> x.stage(0, 1, 0, 2));
        SOME.refused("two STAGES, another that closes", x -> x.stage(1, 1, 0, 1));
        SOME.refused("two STAGES, another that does not", x -> x.stage(1, 1, 0, 2));
        CHECK.says("it has 4");
        SOME.refused("a fifth that closes", x -> x.stage(5, 1, 0, 1));
        SOME.refused("a fifth that does not", x -> x.stage(5, 1, 0, 2));
        CHECK.says("or has 3 and this one would not close it");
        SOME.refused("REFUSE 2 above", x -> x.stage(2, 1, 0, 2));
        SOME.refused("REFUSE 61 above", x -> x.stage(2, 1, 0, 61));
        SOME.refused("ACCEPT -1, REFUSE 1", x -> x.stage(2, 1, -1, 1));
        SOME.refused("ACCEPT 59, REFUSE 61", x -> x.stage(2, 1, 59, 61));
    }

    private static void stageSizes() {
        CHECK.says("a SIZE (1 to 60)");
        SOME.outside("the first STAGE's size", 1, 60, (x, size) -> x.stage(4, size, 0, 1));
        SOME.below("the second STAGE's size", 1, (x, size) -> x.stage(3, size, 0, 1));
        SOME.below("the fourth STAGE's size", 1, (x, size) -> x.stage(2, size, 0, 1));
        CHECK.says("or the SIZES together would be above 60");
        SOME.outside("40 and", 1, 20, (x, size) -> x.stage(3, size, 0, 1));
        SOME.outside("40 and, not closing", 1, 20, (x, size) -> x.stage(3, size, 0, 2));
        SOME.outside("1, 1, 1 and", 1, 57, (x, size) -> x.stage(2, size, 0, 1));
    }

    private static void stageAcceptAndRefuse() {
        CHECK.says("an ACCEPT (-1 to 60)");
        SOME.below("accept, refuse 0", -1, (x, accept) -> x.stage(4, 1, accept, 0));
        SOME.below("accept, refuse 61", -1, (x, accept) -> x.stage(4, 1, accept, 61));
        SOME.outside("accept, refuse just 1 above", -1, 60, (x, accept) -> x.stage(4, 1, accept, accept + 1));
        SOME.outside("accept as a fourth", -1, 60, (x, accept) -> x.stage(2, 1, accept, accept + 1));
        CHECK.says("a REFUSE, above its ACCEPT, 61 at most");
        SOME.outside("refuse, accept -1", 0, 61, (x, refuse) -> x.stage(4, 1, -1, refuse));
        SOME.outside("refuse, accept 0", 1, 61, (x, refuse) -> x.stage(4, 1, 0, refuse));
        SOME.outside("refuse, accept 60", 61, 61, (x, refuse) -> x.stage(4, 1, 60, refuse));
        SOME.outside("refuse as a fourth", 31, 31, (x, refuse) -> x.stage(2, 1, 30, refuse));
        SOME.refused("both the least", x -> x.stage(4, 1, LEAST, LEAST));
        SOME.refused("both the greatest", x -> x.stage(4, 1, MOST, MOST));
        SOME.refused("the least just 1 above the greatest", x -> x.stage(4, 1, MOST, LEAST));
    }

    private static void of() {
        CHECK.says("-2 when there is no such plan, STAGE or what");
        SOME.outside("of, plan", 0, 6, (x, plan) -> x.of(plan, 0, 0));
        SOME.outside("of, STAGE of one", 0, 0, (x, k) -> x.of(0, k, 0));
        SOME.outside("of, STAGE of two", 0, 1, (x, k) -> x.of(1, k, 1));
        SOME.outside("of, STAGE of three", 0, 2, (x, k) -> x.of(2, k, 2));
        SOME.outside("of, STAGE of four", 0, 3, (x, k) -> x.of(5, k, 0));
        SOME.refused("of, STAGE of none", x -> x.of(4, 0, 0));
        SOME.outside("of, what", 0, 2, (x, what) -> x.of(1, 0, what));
    }

    private static void part() {
        CHECK.says("-2 when there is no such plan, it is not CLOSED, n is not 1..60, d not 0..n");
        SOME.outside("part, plan", 0, 6, (x, plan) -> x.part(plan, 60, 2, 0));
        SOME.refused("three STAGES", x -> x.part(2, 60, 2, 0));
        SOME.refused("one STAGE", x -> x.part(3, 60, 2, 0));
        SOME.refused("no STAGE", x -> x.part(4, 60, 2, 0));
        SOME.outside("part, n", 1, 60, (x, n) -> x.part(0, n, 0, 0));
        SOME.outside("part, n and d", 1, 60, (x, n) -> x.part(0, n, n, 0));
        SOME.outside("part, d in 60", 0, 60, (x, d) -> x.part(0, 60, d, 0));
        SOME.outside("part, d in 10", 0, 10, (x, d) -> x.part(0, 10, d, 1));
        SOME.outside("part, d in 1", 0, 1, (x, d) -> x.part(0, 1, d, 2));
        CHECK.says("the SIZES together are above n");
        SOME.outside("part, n for SIZES 6", 6, 60, (x, n) -> x.part(1, n, 0, 0));
        SOME.outside("part, n for SIZES 40", 40, 60, (x, n) -> x.part(5, n, 0, 1));
        SOME.outside("part, n for SIZES 60", 60, 60, (x, n) -> x.part(6, n, 0, 2));
        CHECK.says("or there is no such what");
        SOME.outside("part, what", 0, 2, (x, what) -> x.part(1, 10, 3, what));
    }

    private static void rounded() {
        CHECK.says("-2 when places are not 0..6");
        SOME.outside("rounded", 0, 6, (x, places) -> x.rounded(places));
        NEW.outside("rounded of 0", 0, 6, (x, places) -> x.rounded(places));
    }

    private static void compare() {
        CHECK.says("-2 as of part(), for a or for b");
        SOME.outside("compare, a", 0, 6, (x, a) -> x.compare(a, 0, 60, 2));
        SOME.outside("compare, b", 0, 6, (x, b) -> x.compare(0, b, 60, 2));
        for (int open = 2; open <= 4; open++) {
            int plan = open;
            SOME.refused("compare, a not CLOSED", x -> x.compare(plan, 0, 60, 2));
            SOME.refused("compare, b not CLOSED", x -> x.compare(0, plan, 60, 2));
            SOME.refused("compare with itself, not CLOSED", x -> x.compare(plan, plan, 60, 2));
        }
        SOME.outside("compare, n", 1, 60, (x, n) -> x.compare(0, 0, n, 0));
        SOME.outside("compare, n, SIZES of a", 6, 60, (x, n) -> x.compare(1, 0, n, 0));
        SOME.outside("compare, n, SIZES of b", 6, 60, (x, n) -> x.compare(0, 1, n, 0));
        SOME.outside("compare, d", 0, 10, (x, d) -> x.compare(0, 1, 10, d));
        SOME.outside("compare with itself, d", 0, 60, (x, d) -> x.compare(6, 6, 60, d));
    }

    private static void crossing() {
        CHECK.says("-2 when one of them is no CLOSED plan, n is not 1..60, the SIZES of one are above n");
        SOME.outside("crossing, a", 0, 6, (x, a) -> x.crossing(a, 0, 60, 0));
        SOME.outside("crossing, b", 0, 6, (x, b) -> x.crossing(0, b, 60, 0));
        for (int open = 2; open <= 4; open++) {
            int plan = open;
            SOME.refused("crossing, a not CLOSED", x -> x.crossing(plan, 0, 60, 0));
            SOME.refused("crossing, b not CLOSED", x -> x.crossing(0, plan, 60, 0));
            SOME.refused("crossing with itself, not CLOSED", x -> x.crossing(plan, plan, 60, 0));
        }
        SOME.outside("crossing, n", 1, 60, (x, n) -> x.crossing(0, 0, n, 0));
        SOME.outside("crossing, n, SIZES of a", 6, 60, (x, n) -> x.crossing(1, 0, n, 0));
        SOME.outside("crossing, n, SIZES of b", 6, 60, (x, n) -> x.crossing(0, 1, n, 0));
        CHECK.says("or k is below 0");
        SOME.below("crossing, k", 0, (x, k) -> x.crossing(0, 1, 10, k));
    }

    private static void risk() {
        CHECK.says("-2 when which is another, d is not 0..60, down not 1..1000, up not 0..down");
        SOME.outside("risk, which", 0, 1, (x, which) -> x.risk(which, 3, 1, 2));
        for (int i = 0; i <= 1; i++) {
            int which = i;
            SOME.outside("risk, d", 0, 60, (x, d) -> x.risk(which, d, 1, 2));
            SOME.outside("risk, down", 1, 1000, (x, down) -> x.risk(which, 3, 0, down));
            SOME.outside("risk, down as up", 1, 1000, (x, down) -> x.risk(which, 3, down, down));
            SOME.outside("risk, up of 1", 0, 1, (x, up) -> x.risk(which, 3, up, 1));
            SOME.outside("risk, up of 7", 0, 7, (x, up) -> x.risk(which, 3, up, 7));
            SOME.outside("risk, up of 1000", 0, 1000, (x, up) -> x.risk(which, 3, up, 1000));
        }
        NEW.outside("the first risk, d", 0, 60, (x, d) -> x.risk(0, d, 1, 2));
        NEW.outside("the first risk, which", 0, 1, (x, which) -> x.risk(which, 0, 1, 2));
    }

    private static void searchAndMinimal() {
        CHECK.says("-2 when n is not 1..60");
        NEW.outside("search", 1, 60, (x, n) -> x.search(n));
        NEW.outside("minimal, n", 1, 60, (x, n) -> x.minimal(n, 0));
        CHECK.says("or a told RISK has a d above n");
        SOME.outside("search, d 7", 7, 60, (x, n) -> x.search(n));
        SOME.outside("minimal, d 7", 7, 60, (x, n) -> x.minimal(n, 0));
        CHECK.says("or when k is below 0");
        SOME.below("minimal, k", 0, (x, k) -> x.minimal(60, k));
        NEW.below("minimal, k", 0, (x, k) -> x.minimal(60, k));
    }

    private static void supplier() {
        CHECK.says("-2 when one of them is no CLOSED plan");
        SOME.outside("supplier, normal", 0, 6, (x, plan) -> x.supplier(plan, 0, 1));
        SOME.outside("supplier, tight", 0, 6, (x, plan) -> x.supplier(0, plan, 1));
        SOME.outside("supplier, reduced", 0, 6, (x, plan) -> x.supplier(0, 1, plan));
        for (int i = 2; i <= 4; i++) {
            int open = i;
            SOME.refused("normal not CLOSED", x -> x.supplier(open, 0, 1));
            SOME.refused("tight not CLOSED", x -> x.supplier(0, open, 1));
            SOME.refused("reduced not CLOSED", x -> x.supplier(0, 1, open));
        }
    }

    private static void lot() {
        CHECK.says("-2 when there is no such supplier, the size is not 1..60");
        SOME.outside("lot, supplier", 0, 3, (x, supplier) -> x.lot(supplier, 60));
        SOME.outside("lot, size", 1, 60, (x, size) -> x.lot(1, size));
        CHECK.says("or below the SIZES together of the plan of its rule");
        SOME.outside("lot, SIZES 6", 6, 60, (x, size) -> x.lot(0, size));
        SOME.outside("lot, SIZES 60", 60, 60, (x, size) -> x.lot(2, size));
    }

    private static void item() {
        CHECK.says("-2 when there is no such lot, it is decided, or there is no such CLASS");
        SOME.outside("item, lot", 0, 4, (x, lot) -> x.item(lot, 0));
        SOME.outside("item, CLASS, some seen", 0, 3, (x, which) -> x.item(1, which));
        SOME.outside("item, CLASS, none seen", 0, 3, (x, which) -> x.item(2, which));
        for (int i = 0; i <= 3; i++) {
            int which = i;
            SOME.refused("item, REFUSED, " + which, x -> x.item(0, which));
            SOME.refused("item, TAKEN, " + which, x -> x.item(3, which));
        }
        FULL.outside("the 60th item, CLASS", 0, 3, (x, which) -> x.item(59, which));
    }

    private static void undo() {
        CHECK.says("-2 when there is no such lot, it is decided, or none was seen");
        SOME.outside("undo, lot", 0, 4, (x, lot) -> x.undo(lot));
        SOME.refused("undo, REFUSED", x -> x.undo(0));
        SOME.refused("undo, TAKEN", x -> x.undo(3));
        SOME.refused("undo, none seen", x -> x.undo(2));
    }

    private static void correct() {
        CHECK.says("-2 when there is no such lot, it is decided, there is no such item or CLASS");
        SOME.outside("correct, lot", 0, 4, (x, lot) -> x.correct(lot, 0, 1));
        SOME.refused("correct, REFUSED", x -> x.correct(0, 0, 1));
        SOME.refused("correct, REFUSED, the item that decided", x -> x.correct(0, 1, 0));
        SOME.refused("correct, TAKEN", x -> x.correct(3, 0, 2));
        SOME.outside("correct, item of 4", 0, 3, (x, i) -> x.correct(1, i, 2));
        SOME.outside("correct, item of 4, critical", 0, 3, (x, i) -> x.correct(1, i, 3));
        SOME.refused("correct, item of none", x -> x.correct(2, 0, 1));
        SOME.below("correct, item of none", 0, (x, i) -> x.correct(2, i, 1));
        SOME.outside("correct, CLASS", 0, 3, (x, which) -> x.correct(1, 0, which));
        SOME.outside("correct, CLASS, the last item", 0, 3, (x, which) -> x.correct(4, 4, which));
    }

    private static void aboutAndNeeded() {
        CHECK.says("-2 when there is no such lot or what");
        SOME.outside("about, lot", 0, 4, (x, lot) -> x.about(lot, 0));
        SOME.outside("about, what, undecided", 0, 6, (x, what) -> x.about(1, what));
        SOME.outside("about, what, decided", 0, 6, (x, what) -> x.about(0, what));
        CHECK.says("-2 when there is no such lot");
        SOME.outside("needed", 0, 4, (x, lot) -> x.needed(lot));
    }

    private static void ruleAndRun() {
        CHECK.says("-2 when there is none such");
        SOME.outside("rule", 0, 3, (x, supplier) -> x.rule(supplier));
        CHECK.says("-2 when there is no such supplier, or k is below 0");
        SOME.outside("run, supplier", 0, 3, (x, supplier) -> x.run(supplier, 0));
        SOME.below("run, k, one in the RUN", 0, (x, k) -> x.run(0, k));
        SOME.below("run, k, none in the RUN", 0, (x, k) -> x.run(3, k));
    }

    private static void cost() {
        CHECK.says("-2 when there is no such CLASS, or the cents are not 0..100000");
        SOME.outside("cost, CLASS", 0, 3, (x, which) -> x.cost(which, 1));
        for (int i = 0; i <= 3; i++) {
            int which = i;
            SOME.outside("cost, cents of " + which, 0, 100000, (x, cents) -> x.cost(which, cents));
        }
        NEW.outside("the first cost, cents", 0, 100000, (x, cents) -> x.cost(0, cents));
    }

    private static void scoreAndCount() {
        CHECK.says("-2 when there is no such supplier or what");
        SOME.outside("score, supplier", 0, 3, (x, supplier) -> x.score(supplier, 6));
        SOME.outside("score, what", 0, 6, (x, what) -> x.score(0, what));
        SOME.outside("score, what, no lots", 0, 6, (x, what) -> x.score(3, what));
        CHECK.says("-2 for another what");
        SOME.outside("count", 0, 5, (x, what) -> x.count(what));
        NEW.outside("count", 0, 5, (x, what) -> x.count(what));
    }

    /** Several reasons at once are one -2. */
    private static void allIsWrong(Edge desk) {
        CHECK.says("What is wrong is asked in the order in which it is told");
        int[] all = {LEAST, LEAST + 1, -3, -2, -1, 1001, MOST - 1, MOST};
        for (int a : all) {
            desk.refused("stage, all " + a, x -> x.stage(a, a, a, a));
            desk.refused("of, all " + a, x -> x.of(a, a, a));
            desk.refused("part, all " + a, x -> x.part(a, a, a, a));
            desk.refused("rounded " + a, x -> x.rounded(a));
            desk.refused("compare, all " + a, x -> x.compare(a, a, a, a));
            desk.refused("crossing, all " + a, x -> x.crossing(a, a, a, a));
            desk.refused("risk, all " + a, x -> x.risk(a, a, a, a));
            desk.refused("search " + a, x -> x.search(a));
            desk.refused("minimal, all " + a, x -> x.minimal(a, a));
            desk.refused("supplier, all " + a, x -> x.supplier(a, a, a));
            desk.refused("lot, all " + a, x -> x.lot(a, a));
            desk.refused("item, all " + a, x -> x.item(a, a));
            desk.refused("undo " + a, x -> x.undo(a));
            desk.refused("correct, all " + a, x -> x.correct(a, a, a));
            desk.refused("about, all " + a, x -> x.about(a, a));
            desk.refused("needed " + a, x -> x.needed(a));
            desk.refused("rule " + a, x -> x.rule(a));
            desk.refused("run, all " + a, x -> x.run(a, a));
            desk.refused("cost, all " + a, x -> x.cost(a, a));
            desk.refused("score, all " + a, x -> x.score(a, a));
            desk.refused("count " + a, x -> x.count(a));
        }
    }

    /** What stands behind a call proves nothing unless each call that changes something is seen. */
    private static void theSnapshotTells() {
        CHECK.says("it changes nothing");
        NEW.changes("plan", x -> x.plan());
        SOME.changes("plan", x -> x.plan());
        SOME.changes("stage", x -> x.stage(4, 1, 0, 3));
        SOME.changes("stage that closes", x -> x.stage(2, 1, 0, 1));
        SOME.changes("part", x -> x.part(0, 10, 2, 0));
        SOME.changes("risk 0, its d", x -> x.risk(0, 2, 8, 10));
        SOME.changes("risk 0, its part", x -> x.risk(0, 1, 7, 10));
        SOME.changes("risk 1, its d", x -> x.risk(1, 6, 1, 10));
        SOME.changes("risk 1, its part", x -> x.risk(1, 7, 2, 10));
        SOME.changes("forget", x -> x.forget());
        SOME.changes("supplier", x -> x.supplier(0, 0, 0));
        SOME.changes("lot", x -> x.lot(1, 10));
        SOME.changes("item", x -> x.item(2, 0));
        SOME.changes("undo", x -> x.undo(1));
        for (int i = 0; i <= 3; i++) {
            int which = i;
            SOME.changes("cost of " + which, x -> x.cost(which, 1));
        }
        SOME.changes("correct, good for minor", x -> x.correct(1, 0, 0));
        SOME.changes("correct, minor for good", x -> x.correct(1, 2, 1));
        SOME.changes("correct, major for minor", x -> x.correct(4, 3, 2));
    }
}
