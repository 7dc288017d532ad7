/** Promises 15, 22 and 23, and the rules: supplier, rule, run. */
public final class SupplierTest {
    private static final Check CHECK = new Check();

    public static void main(String[] args) {
        suppliersAreNumbered();
        wrongPlans();
        twoOfFiveRefused();
        refusedSixApart();
        sixTaken();
        tightToNormal();
        reducedToNormal();
        lotsOfTheOldRule();
        runsOfSuppliersAreApart();
        aLongRun();
        wrongInputs();
        CHECK.finish("SupplierTest");
    }

    /** Plans 0, 1, 2 see one item each, for the rules of supplier 0 and 1. */
    private static SamplingDesk deskWithSuppliers() {
        SamplingDesk desk = new SamplingDesk();
        for (int i = 0; i < 3; i++) {
            Check.planOf(desk, 1, 0, 1);
        }
        desk.supplier(0, 1, 2);
        desk.supplier(0, 1, 2);
        return desk;
    }

    /** Lots of a supplier, T taken, R refused, one behind another. */
    private static void decide(SamplingDesk desk, int supplier, String decisions) {
        for (char decision : decisions.toCharArray()) {
            int lot = desk.lot(supplier, 5);
            CHECK.due("rule it came by", desk.about(lot, 6), desk.rule(supplier));
            CHECK.due("its plan", desk.about(lot, 4), desk.rule(supplier));
            desk.item(lot, decision == 'T' ? 0 : 2);
        }
    }

    private static void stands(SamplingDesk desk, int supplier, int rule, String run, int changes) {
        CHECK.due("rule", desk.rule(supplier), rule);
        CHECK.due("changes", desk.score(supplier, 6), changes);
        StringBuilder got = new StringBuilder();
        for (int k = 0; desk.run(supplier, k) > 0; k++) {
            got.append(desk.run(supplier, k) == 1 ? 'T' : 'R');
        }
        CHECK.due("run from the latest on", got.toString(), run);
    }

    private static void suppliersAreNumbered() {
        SamplingDesk desk = new SamplingDesk();
        Check.planOf(desk, 1, 0, 1);
        for (int i = 0; i < 8; i++) {
            CHECK.due("supplier number " + i, desk.supplier(0, 0, 0), i);
            CHECK.due("NORMAL at first", desk.rule(i), 0);
        }
        CHECK.due("supplier of 8", desk.supplier(0, 0, 0), -2);
        CHECK.due("count(2)", desk.count(2), 8);
        CHECK.due("rule(7)", desk.rule(7), 0);
        CHECK.due("rule(8)", desk.rule(8), -2);
    }

    private static void wrongPlans() {
        SamplingDesk desk = new SamplingDesk();
        int closed = Check.planOf(desk, 1, 0, 1);
        int open = Check.planOf(desk, 1, 0, 2);
        int[] wrong = {open, -1, 2, Integer.MIN_VALUE, Integer.MAX_VALUE};
        for (int w : wrong) {
            CHECK.due("normal " + w, desk.supplier(w, closed, closed), -2);
            CHECK.due("tight " + w, desk.supplier(closed, w, closed), -2);
            CHECK.due("reduced " + w, desk.supplier(closed, closed, w), -2);
        }
        CHECK.due("none came", desk.count(2), 0);
    }

    private static void twoOfFiveRefused() {
        SamplingDesk desk = deskWithSuppliers();
        decide(desk, 0, "R");
        stands(desk, 0, 0, "R", 0);
        decide(desk, 0, "R");
        stands(desk, 0, 1, "", 1);
        decide(desk, 1, "TTRTTT");
        stands(desk, 1, 0, "TTTRTT", 0);
        decide(desk, 1, "R");
        stands(desk, 1, 1, "", 1);
    }

    private static void refusedSixApart() {
        SamplingDesk desk = deskWithSuppliers();
        decide(desk, 0, "RTTTT");
        stands(desk, 0, 0, "TTTTR", 0);
        decide(desk, 0, "R");
        stands(desk, 0, 0, "RTTTTR", 0);
        decide(desk, 0, "TTT");
        stands(desk, 0, 0, "TTTRTTTTR", 0);
        decide(desk, 0, "R");
        stands(desk, 0, 1, "", 1);
    }

    private static void sixTaken() {
        SamplingDesk desk = deskWithSuppliers();
        decide(desk, 0, "TTTTT");
        stands(desk, 0, 0, "TTTTT", 0);
        decide(desk, 0, "T");
        stands(desk, 0, 2, "", 1);
        decide(desk, 1, "TTTTTRTTTTT");
        stands(desk, 1, 0, "TTTTTRTTTTT", 0);
        decide(desk, 1, "T");
        stands(desk, 1, 2, "", 1);
    }

    private static void tightToNormal() {
        SamplingDesk desk = deskWithSuppliers();
        decide(desk, 0, "RR");
        decide(desk, 0, "RRRTTTTRTTTT");
        stands(desk, 0, 1, "TTTTRTTTTRRR", 1);
        decide(desk, 0, "T");
        stands(desk, 0, 0, "", 2);
        decide(desk, 0, "TTTTT");
        stands(desk, 0, 0, "TTTTT", 2);
    }

    private static void reducedToNormal() {
        SamplingDesk desk = deskWithSuppliers();
        decide(desk, 0, "TTTTTT");
        decide(desk, 0, "TTTTTTT");
        stands(desk, 0, 2, "TTTTTTT", 1);
        decide(desk, 0, "R");
        stands(desk, 0, 0, "", 2);
        decide(desk, 0, "R");
        stands(desk, 0, 0, "R", 2);
    }

    /** Lots that came by an older rule count for the RUN when they are decided. */
    private static void lotsOfTheOldRule() {
        SamplingDesk desk = deskWithSuppliers();
        for (int i = 0; i < 9; i++) {
            desk.lot(0, 5);
        }
        desk.item(8, 2);
        desk.item(7, 2);
        stands(desk, 0, 1, "", 1);
        for (int i = 0; i < 5; i++) {
            stands(desk, 0, 1, "TTTT".substring(0, i), 1);
            desk.item(i, 0);
            CHECK.due("by NORMAL", desk.about(i, 6), 0);
        }
        stands(desk, 0, 0, "", 2);
    }

    private static void runsOfSuppliersAreApart() {
        SamplingDesk desk = deskWithSuppliers();
        decide(desk, 0, "R");
        decide(desk, 1, "R");
        stands(desk, 0, 0, "R", 0);
        stands(desk, 1, 0, "R", 0);
        decide(desk, 1, "R");
        stands(desk, 0, 0, "R", 0);
        stands(desk, 1, 1, "", 1);
    }

    private static void aLongRun() {
        SamplingDesk desk = new SamplingDesk();
        Check.planOf(desk, 1, 0, 1);
        desk.supplier(0, 0, 0);
        for (int i = 0; i < 60; i++) {
            desk.item(desk.lot(0, 1), 2);
        }
        CHECK.due("the oldest", desk.run(0, 57), 2);
        CHECK.due("none older", desk.run(0, 58), 0);
        CHECK.due("far", desk.run(0, Integer.MAX_VALUE), 0);
        CHECK.due("rule", desk.rule(0), 1);
    }

    private static void wrongInputs() {
        SamplingDesk desk = deskWithSuppliers();
        int[] wrong = {-1, 2, Integer.MIN_VALUE, Integer.MAX_VALUE};
        for (int w : wrong) {
            CHECK.due("rule(" + w + ")", desk.rule(w), -2);
            CHECK.due("run(" + w + ", 0)", desk.run(w, 0), -2);
        }
        CHECK.due("run(0, -1)", desk.run(0, -1), -2);
        CHECK.due("run(0, least)", desk.run(0, Integer.MIN_VALUE), -2);
        CHECK.due("run(0, 0)", desk.run(0, 0), 0);
    }
}
