/** Terms 4 and promises 15, 16, 22 and 23, sentence by sentence: suppliers, their lots and RUNS. */
public final class SupplierEdgeTest {
    private static final Check CHECK = new Check();
    private static final int MOST = Integer.MAX_VALUE;
    private static final int NORMAL = 0;
    private static final int TIGHT = 1;
    private static final int REDUCED = 2;

    public static void main(String[] args) {
        numbersOfSuppliers();
        plansOfSuppliers();
        numbersOfLots();
        sizesOfLots();
        sizesByTheRule();
        twoRefusedAmongFive();
        sixTaken();
        fiveTakenWhenTight();
        refusedWhenReduced();
        theRunIsEmptied();
        theLatestIsTheLatestDecided();
        undecidedLotsAreInNoRun();
        decidedByCorrecting();
        theOrderOfDeciding();
        theLongestRun();
        CHECK.finish("SupplierEdgeTest");
    }

    /** Plans 0, 1, 2 of one item each, for the three rules of supplier 0. */
    private static SamplingDesk deskWithSupplier() {
        SamplingDesk desk = new SamplingDesk();
        for (int i = 0; i < 3; i++) {
            Check.planOf(desk, 1, 0, 1);
        }
        desk.supplier(0, 1, 2);
        return desk;
    }

    /** Lots of supplier 0, T taken, R refused; each comes by the rule before it. */
    private static void decide(SamplingDesk desk, String decisions) {
        for (char decision : decisions.toCharArray()) {
            desk.item(desk.lot(0, 1), decision == 'T' ? 0 : 2);
        }
    }

    /** Behind these lots supplier 0 has this rule, a RUN so long, and so many changes. */
    private static void stands(SamplingDesk desk, String lots, int rule, int length, int changes) {
        CHECK.due("rule behind " + lots, desk.rule(0), rule);
        CHECK.due("changes behind " + lots, desk.score(0, 6), changes);
        CHECK.due("none older behind " + lots, desk.run(0, length), 0);
        for (int k = 0; k < length; k++) {
            int want = lots.charAt(lots.length() - 1 - k) == 'T' ? 1 : 2;
            CHECK.due("run " + k + " behind " + lots, desk.run(0, k), want);
        }
    }

    private static void behind(String lots, int rule, int length, int changes) {
        SamplingDesk desk = deskWithSupplier();
        decide(desk, lots);
        stands(desk, lots, rule, length, changes);
    }

    private static void numbersOfSuppliers() {
        CHECK.says("SUPPLIERS are numbered from 0, 8 at most");
        SamplingDesk desk = new SamplingDesk();
        Check.planOf(desk, 1, 0, 1);
        for (int i = 0; i <= 7; i++) {
            CHECK.due("none yet", desk.rule(i), -2);
            CHECK.due("supplier", desk.supplier(0, 0, 0), i);
            CHECK.due("NORMAL at first", desk.rule(i), NORMAL);
            CHECK.due("its RUN", desk.run(i, 0), 0);
            CHECK.due("its RUN, far back", desk.run(i, MOST), 0);
            CHECK.due("no change", desk.score(i, 6), 0);
            CHECK.due("count(2)", desk.count(2), i + 1);
        }
        for (int i = 0; i < 3; i++) {
            CHECK.due("a ninth", desk.supplier(0, 0, 0), -2);
            CHECK.due("count(2)", desk.count(2), 8);
        }
        CHECK.due("a lot of the last one", desk.lot(7, 1), 0);
        CHECK.due("a lot of none", desk.lot(8, 1), -2);
    }

    private static void plansOfSuppliers() {
        CHECK.says("each with three CLOSED plans");
        SamplingDesk desk = new SamplingDesk();
        for (int i = 0; i < 24; i++) {
            desk.plan();
        }
        CHECK.due("none is CLOSED", desk.supplier(0, 0, 0), -2);
        desk.stage(23, 1, 0, 1);
        CHECK.due("the last plan alone", desk.supplier(23, 23, 23), 0);
        CHECK.due("normal is not", desk.supplier(0, 23, 23), -2);
        CHECK.due("tight is not", desk.supplier(23, 0, 23), -2);
        CHECK.due("reduced is not", desk.supplier(23, 23, 0), -2);
        desk.stage(0, 1, 0, 2);
        CHECK.due("one STAGE does not close it", desk.supplier(23, 0, 23), -2);
        desk.stage(0, 1, 0, 1);
        CHECK.due("the second one does", desk.supplier(23, 0, 23), 1);
        desk.lot(0, 1);
        CHECK.due("its plan", desk.about(0, 4), 23);
    }

    private static void numbersOfLots() {
        CHECK.says("LOTS are numbered from 0, 60 at most");
        SamplingDesk desk = new SamplingDesk();
        Check.planOf(desk, 1, 0, 1);
        for (int i = 0; i < 8; i++) {
            desk.supplier(0, 0, 0);
        }
        for (int i = 0; i <= 59; i++) {
            CHECK.due("none yet", desk.about(i, 0), -2);
            CHECK.due("lot", desk.lot(i % 8, 1 + i), i);
            CHECK.due("its size", desk.about(i, 5), 1 + i);
        }
        for (int i = 0; i < 8; i++) {
            CHECK.due("a lot more", desk.lot(i, 60), -2);
        }
        CHECK.due("count(3)", desk.count(3), 60);
        CHECK.due("the last one is decided", desk.item(59, 0), 1);
        CHECK.due("none more all the same", desk.lot(0, 60), -2);
    }

    private static void sizesOfLots() {
        CHECK.says("the size is not 1..60, or below the SIZES together of the plan of its rule");
        for (int together = 1; together <= 60; together++) {
            SamplingDesk desk = new SamplingDesk();
            Check.planOf(desk, together, 0, 1);
            desk.supplier(0, 0, 0);
            CHECK.due("below " + together, desk.lot(0, together - 1), -2);
            CHECK.due("61", desk.lot(0, 61), -2);
            CHECK.due("just " + together, desk.lot(0, together), 0);
            CHECK.due("60 for " + together, desk.lot(0, 60), 1);
        }
        SamplingDesk desk = new SamplingDesk();
        Check.planOf(desk, 10, 0, 2, 20, 1, 3, 15, 2, 4, 5, 3, 4);
        desk.supplier(0, 0, 0);
        CHECK.due("below four STAGES", desk.lot(0, 49), -2);
        CHECK.due("as four STAGES", desk.lot(0, 50), 0);
    }

    /** NORMAL sees 2 items, TIGHT 5, REDUCED 1. */
    private static void sizesByTheRule() {
        CHECK.says("seen by the plan of the rule that its supplier has when it comes");
        SamplingDesk desk = new SamplingDesk();
        Check.planOf(desk, 2, 0, 1);
        Check.planOf(desk, 5, 0, 1);
        Check.planOf(desk, 1, 0, 1);
        desk.supplier(0, 1, 2);
        desk.supplier(0, 1, 2);
        CHECK.due("NORMAL, 1", desk.lot(0, 1), -2);
        CHECK.due("NORMAL, 2", desk.lot(0, 2), 0);
        CHECK.due("NORMAL, 2", desk.lot(0, 2), 1);
        CHECK.due("NORMAL, 2", desk.lot(0, 2), 2);
        desk.item(0, 2);
        desk.item(1, 2);
        CHECK.due("TIGHT", desk.rule(0), TIGHT);
        CHECK.due("TIGHT, 4", desk.lot(0, 4), -2);
        CHECK.due("TIGHT, 5", desk.lot(0, 5), 3);
        CHECK.due("the other supplier, 2", desk.lot(1, 2), 4);
        CHECK.due("the older lot keeps NORMAL's plan", desk.about(2, 4), 0);
        CHECK.due("and its rule", desk.about(2, 6), NORMAL);
        CHECK.due("the later one has TIGHT's", desk.about(3, 4), 1);
        CHECK.due("and its rule", desk.about(3, 6), TIGHT);
        for (int i = 0; i < 6; i++) {
            int lot = i == 0 ? 4 : desk.lot(1, 2);
            Check.see(desk, lot, 0, 0);
        }
        CHECK.due("REDUCED", desk.rule(1), REDUCED);
        CHECK.due("REDUCED, 0", desk.lot(1, 0), -2);
        CHECK.due("REDUCED, 1", desk.lot(1, 1), 10);
        CHECK.due("its plan", desk.about(10, 4), 2);
        CHECK.due("its rule", desk.about(10, 6), REDUCED);
    }

    private static void twoRefusedAmongFive() {
        CHECK.says("NORMAL: two refused ones among the latest five (or all, if there are fewer): TIGHT");
        behind("", NORMAL, 0, 0);
        behind("R", NORMAL, 1, 0);
        behind("T", NORMAL, 1, 0);
        behind("RR", TIGHT, 0, 1);
        behind("RTR", TIGHT, 0, 1);
        behind("RTTR", TIGHT, 0, 1);
        behind("RTTTR", TIGHT, 0, 1);
        behind("RTTTTR", NORMAL, 6, 0);
        behind("RTTTTRTTTR", TIGHT, 0, 1);
        behind("RTTTTRTTTTR", NORMAL, 11, 0);
        behind("TRTTTR", TIGHT, 0, 1);
        behind("TRR", TIGHT, 0, 1);
        behind("TTTTTR", NORMAL, 6, 0);
        behind("TTTTTRR", TIGHT, 0, 1);
    }

    private static void sixTaken() {
        CHECK.says("else six or more, the latest six taken: REDUCED");
        behind("TTTTT", NORMAL, 5, 0);
        behind("TTTTTT", REDUCED, 0, 1);
        behind("RTTTTT", NORMAL, 6, 0);
        behind("RTTTTTT", REDUCED, 0, 1);
        behind("TTTTTRTTTTT", NORMAL, 11, 0);
        behind("TTTTTRTTTTTT", REDUCED, 0, 1);
    }

    private static void fiveTakenWhenTight() {
        CHECK.says("TIGHT: five or more, the latest five taken: NORMAL");
        behind("RRTTTT", TIGHT, 4, 1);
        behind("RRTTTTT", NORMAL, 0, 2);
        behind("RRRTTTT", TIGHT, 5, 1);
        behind("RRRTTTTT", NORMAL, 0, 2);
        behind("RRTTTTRTTTT", TIGHT, 9, 1);
        behind("RRTTTTRTTTTT", NORMAL, 0, 2);
        behind("RRRRRRR", TIGHT, 5, 1);
    }

    private static void refusedWhenReduced() {
        CHECK.says("REDUCED: the latest refused: NORMAL");
        behind("TTTTTTT", REDUCED, 1, 1);
        behind("TTTTTTTTTTTTT", REDUCED, 7, 1);
        behind("TTTTTTR", NORMAL, 0, 2);
        behind("TTTTTTTR", NORMAL, 0, 2);
    }

    private static void theRunIsEmptied() {
        CHECK.says("When the rule changes, the RUN is empty.");
        // The refused lot that ended REDUCED is not among the latest five of NORMAL.
        behind("TTTTTTRR", NORMAL, 1, 2);
        behind("TTTTTTRRR", TIGHT, 0, 3);
        behind("TTTTTTRTTTTT", NORMAL, 5, 2);
        behind("TTTTTTRTTTTTT", REDUCED, 0, 3);
        // The five that ended TIGHT are not among the latest six of NORMAL.
        behind("RRTTTTTT", NORMAL, 1, 2);
        behind("RRTTTTTTTTTT", NORMAL, 5, 2);
        behind("RRTTTTTTTTTTT", REDUCED, 0, 3);
        behind("RRTTTTTR", NORMAL, 1, 2);
        // The four taken before TIGHT are not among its latest five.
        behind("RTTTRTTTT", TIGHT, 4, 1);
        behind("RTTTRTTTTT", NORMAL, 0, 2);
    }

    /** The rule is asked for when a lot is decided, not when it comes. */
    private static void theLatestIsTheLatestDecided() {
        CHECK.says("When a lot is decided its supplier's RUN gets it (taken or refused) as the latest one");
        SamplingDesk desk = deskWithSupplier();
        for (int i = 0; i < 7; i++) {
            desk.lot(0, 1);
        }
        for (int i = 6; i > 1; i--) {
            desk.item(i, 0);
            stands(desk, "TTTTT".substring(0, 7 - i), NORMAL, 7 - i, 0);
        }
        desk.item(0, 3);
        stands(desk, "TTTTTR", NORMAL, 6, 0);
        desk.item(1, 3);
        stands(desk, "", TIGHT, 0, 1);
    }

    private static void undecidedLotsAreInNoRun() {
        CHECK.says("When a lot is decided its supplier's RUN gets it");
        SamplingDesk desk = new SamplingDesk();
        Check.planOf(desk, 3, 1, 2);
        desk.supplier(0, 0, 0);
        desk.supplier(0, 0, 0);
        for (int i = 0; i < 8; i++) {
            desk.lot(i == 7 ? 1 : 0, 3);
        }
        Check.see(desk, 7, 0, 0, 0);
        stands(desk, "", NORMAL, 0, 0);
        for (int i = 0; i < 6; i++) {
            stands(desk, "TTTTT".substring(0, i), NORMAL, i, 0);
            CHECK.due("undecided", Check.see(desk, i, 0, 2), 0);
            desk.undo(i);
            desk.correct(i, 0, 1);
            CHECK.due("undecided", desk.item(i, 1), 0);
            stands(desk, "TTTTT".substring(0, i), NORMAL, i, 0);
            CHECK.due("decided", desk.item(i, 0), 1);
        }
        stands(desk, "", REDUCED, 0, 1);
        CHECK.due("the other supplier's rule", desk.rule(1), NORMAL);
        CHECK.due("the other supplier's RUN", desk.run(1, 0), 1);
    }

    private static void decidedByCorrecting() {
        CHECK.says("When a lot is decided its supplier's RUN gets it");
        SamplingDesk desk = new SamplingDesk();
        Check.planOf(desk, 2, 0, 2, 2, 1, 2);
        desk.supplier(0, 0, 0);
        for (int i = 0; i < 3; i++) {
            desk.lot(0, 4);
        }
        Check.see(desk, 0, 2, 0);
        CHECK.due("TAKEN by correcting", desk.correct(0, 0, 0), 1);
        stands(desk, "T", NORMAL, 1, 0);
        Check.see(desk, 1, 2, 0);
        CHECK.due("REFUSED by correcting", desk.correct(1, 1, 2), 2);
        stands(desk, "TR", NORMAL, 2, 0);
        Check.see(desk, 2, 0);
        CHECK.due("not decided by correcting", desk.correct(2, 0, 2), 0);
        stands(desk, "TR", NORMAL, 2, 0);
        CHECK.due("a critical one", desk.correct(2, 0, 3), 2);
        stands(desk, "", TIGHT, 0, 1);
    }

    private static void theOrderOfDeciding() {
        CHECK.says("The k-th latest lot of a supplier's RUN (0 the latest): 1 taken, 2 refused; 0 when the RUN"
                + " has none such.");
        SamplingDesk desk = deskWithSupplier();
        for (int i = 0; i < 3; i++) {
            desk.lot(0, 1);
        }
        desk.item(2, 0);
        desk.item(0, 2);
        desk.item(1, 0);
        int[] want = {1, 2, 1, 0, 0};
        for (int k = 0; k < 5; k++) {
            CHECK.due("run " + k, desk.run(0, k), want[k]);
        }
        CHECK.due("the greatest k", desk.run(0, MOST), 0);
        CHECK.due("k 60", desk.run(0, 60), 0);
        CHECK.due("k -1", desk.run(0, -1), -2);
    }

    /** One refused lot in five, again and again, leaves NORMAL as it is for all 60 lots. */
    private static void theLongestRun() {
        CHECK.says("0 when the RUN has none such");
        SamplingDesk desk = deskWithSupplier();
        String lots = "RTTTT".repeat(12);
        decide(desk, lots);
        stands(desk, lots, NORMAL, 60, 0);
        CHECK.due("none so old", desk.run(0, 61), 0);
        CHECK.due("no lot more", desk.lot(0, 1), -2);
        behind("RR" + "TTTTR".repeat(11) + "TTT", TIGHT, 58, 1);
        behind("T".repeat(60), REDUCED, 54, 1);
    }
}
