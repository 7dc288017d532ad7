/** Promises 24 to 26, sentence by sentence, up to the last value that is allowed. */
public final class ScoreEdgeTest {
    private static final Check CHECK = new Check();

    public static void main(String[] args) {
        whatItDidCost();
        fromNowOn();
        theGreatestCost();
        suppliersWithoutLots();
        allLotsOfOneSupplier();
        lotsOfAllSuppliers();
        itemsThatAreNotSeenAnyMore();
        howOftenTheRuleChanged();
        countsAtFirst();
        countsAtLast();
        CHECK.finish("ScoreEdgeTest");
    }

    private static SamplingDesk deskWith(int suppliers, int... stages) {
        SamplingDesk desk = new SamplingDesk();
        Check.planOf(desk, stages);
        for (int i = 0; i < suppliers; i++) {
            desk.supplier(0, 0, 0);
        }
        return desk;
    }

    private static void scores(SamplingDesk desk, int supplier, long... want) {
        for (int what = 0; what <= 6; what++) {
            CHECK.due("score(" + supplier + ", " + what + ")", desk.score(supplier, what), want[what]);
        }
        CHECK.due("what -1", desk.score(supplier, -1), -2);
        CHECK.due("what 7", desk.score(supplier, 7), -2);
    }

    private static void whatItDidCost() {
        CHECK.says("An item of a CLASS costs so many cents from now on, for all lots, decided ones too: what it did.");
        SamplingDesk desk = new SamplingDesk();
        for (int which = 0; which <= 3; which++) {
            CHECK.due("nothing at first", desk.cost(which, 100000), 0);
            CHECK.due("-1 is refused", desk.cost(which, -1), -2);
            CHECK.due("100001 is refused", desk.cost(which, 100001), -2);
            CHECK.due("100000 was allowed", desk.cost(which, 0), 100000);
            CHECK.due("0 was allowed", desk.cost(which, 1 + which), 0);
        }
        for (int which = 0; which <= 3; which++) {
            CHECK.due("each its own", desk.cost(which, 0), 1 + which);
        }
    }

    private static void fromNowOn() {
        CHECK.says("from now on, for all lots, decided ones too");
        SamplingDesk desk = deskWith(1, 4, 2, 3);
        desk.lot(0, 9);
        desk.lot(0, 9);
        Check.see(desk, 0, 0, 1, 2, 0);
        Check.see(desk, 1, 0, 1);
        CHECK.due("nothing at first", desk.score(0, 5), 0);
        desk.cost(0, 1);
        CHECK.due("good ones", desk.score(0, 5), 3);
        desk.cost(1, 10);
        CHECK.due("minor ones", desk.score(0, 5), 23);
        desk.cost(2, 100);
        CHECK.due("a major one", desk.score(0, 5), 123);
        desk.cost(3, 1000);
        CHECK.due("no critical one", desk.score(0, 5), 123);
        desk.item(1, 3);
        CHECK.due("a critical one", desk.score(0, 5), 1123);
        desk.cost(1, 0);
        CHECK.due("minor ones cost nothing any more", desk.score(0, 5), 1103);
    }

    private static void theGreatestCost() {
        CHECK.says("5 the cents of all items seen");
        SamplingDesk desk = deskWith(1, 60, 60, 61);
        for (int which = 0; which <= 3; which++) {
            desk.cost(which, 100000);
        }
        for (int lot = 0; lot < 7; lot++) {
            desk.lot(0, 60);
            Check.seeMany(desk, lot, 59, lot % 3);
            desk.item(lot, 3);
        }
        CHECK.due("420 items", desk.score(0, 5), 42000000L);
        CHECK.due("not good ones", desk.score(0, 4), 243);
    }

    private static void suppliersWithoutLots() {
        CHECK.says("Of a supplier's lots");
        SamplingDesk desk = deskWith(8, 2, 0, 1);
        desk.lot(3, 9);
        desk.item(3, 2);
        desk.item(0, 0);
        for (int supplier = 0; supplier < 8; supplier++) {
            if (supplier != 3) {
                scores(desk, supplier, 0, 0, 0, 0, 0, 0, 0);
            }
        }
        scores(desk, 3, 0, 0, 1, 1, 0, 0, 0);
        CHECK.due("a ninth", desk.score(8, 0), -2);
        CHECK.due("one before the first", desk.score(-1, 0), -2);
    }

    private static void allLotsOfOneSupplier() {
        CHECK.says("0 how many are TAKEN, 1 REFUSED, 2 undecided, 3 items seen, 4 items that are not good");
        SamplingDesk desk = deskWith(1, 2, 0, 1);
        for (int i = 0; i < 60; i++) {
            desk.lot(0, 2);
        }
        scores(desk, 0, 0, 0, 60, 0, 0, 0, 0);
        for (int i = 0; i < 60; i++) {
            desk.item(i, 1);
        }
        scores(desk, 0, 0, 0, 60, 60, 60, 0, 0);
        for (int i = 0; i < 60; i++) {
            desk.item(i, 0);
        }
        // The first six make it REDUCED, where all the others leave it.
        scores(desk, 0, 60, 0, 0, 120, 60, 0, 1);
    }

    private static void lotsOfAllSuppliers() {
        CHECK.says("Of a supplier's lots");
        SamplingDesk desk = deskWith(8, 1, 0, 1);
        for (int i = 0; i < 60; i++) {
            desk.lot(i % 8, 1);
        }
        for (int i = 0; i < 60; i += 2) {
            desk.item(i, 3);
        }
        scores(desk, 0, 0, 8, 0, 8, 8, 0, 1);
        scores(desk, 1, 0, 0, 8, 0, 0, 0, 0);
        scores(desk, 6, 0, 7, 0, 7, 7, 0, 1);
        scores(desk, 7, 0, 0, 7, 0, 0, 0, 0);
    }

    private static void itemsThatAreNotSeenAnyMore() {
        CHECK.says("if it is decided by an item, those behind that were never seen");
        SamplingDesk desk = deskWith(1, 9, 4, 5);
        desk.cost(0, 1);
        desk.cost(1, 10);
        desk.cost(2, 100);
        desk.cost(3, 1000);
        desk.lot(0, 9);
        Check.see(desk, 0, 0, 1, 2, 0, 1);
        scores(desk, 0, 0, 0, 1, 5, 3, 122, 0);
        desk.undo(0);
        scores(desk, 0, 0, 0, 1, 4, 2, 112, 0);
        desk.correct(0, 0, 2);
        scores(desk, 0, 0, 0, 1, 4, 3, 211, 0);
        desk.correct(0, 1, 3);
        scores(desk, 0, 0, 1, 0, 2, 2, 1100, 0);
    }

    private static void howOftenTheRuleChanged() {
        CHECK.says("6 how often its rule changed");
        SamplingDesk desk = deskWith(2, 1, 0, 1);
        String lots = "RRTTTTTRRTTTTTTTTTTTRRR";
        int[] changes = {0, 1, 1, 1, 1, 1, 2, 2, 3, 3, 3, 3, 3, 4, 4, 4, 4, 4, 4, 5, 6, 6, 7};
        for (int i = 0; i < lots.length(); i++) {
            desk.item(desk.lot(0, 1), lots.charAt(i) == 'T' ? 0 : 2);
            CHECK.due("behind lot " + i, desk.score(0, 6), changes[i]);
        }
        CHECK.due("the other supplier's", desk.score(1, 6), 0);
    }

    private static void countsAtFirst() {
        CHECK.says("0 plans, 1 CLOSED plans, 2 suppliers, 3 lots, 4 lots that are decided, 5 RISKS that are told");
        SamplingDesk desk = new SamplingDesk();
        counts(desk, 0, 0, 0, 0, 0, 0);
        desk.plan();
        counts(desk, 1, 0, 0, 0, 0, 0);
        desk.stage(0, 2, 0, 2);
        counts(desk, 1, 0, 0, 0, 0, 0);
        desk.stage(0, 2, 1, 2);
        counts(desk, 1, 1, 0, 0, 0, 0);
        desk.supplier(0, 0, 0);
        counts(desk, 1, 1, 1, 0, 0, 0);
        desk.lot(0, 4);
        counts(desk, 1, 1, 1, 1, 0, 0);
        desk.item(0, 0);
        counts(desk, 1, 1, 1, 1, 0, 0);
        desk.item(0, 0);
        counts(desk, 1, 1, 1, 1, 1, 0);
        desk.lot(0, 4);
        desk.item(1, 3);
        counts(desk, 1, 1, 1, 2, 2, 0);
        desk.risk(1, 0, 0, 1);
        counts(desk, 1, 1, 1, 2, 2, 1);
        desk.risk(1, 0, 1, 1);
        counts(desk, 1, 1, 1, 2, 2, 1);
        desk.risk(0, 0, 1, 1);
        counts(desk, 1, 1, 1, 2, 2, 2);
        desk.forget();
        counts(desk, 1, 1, 1, 2, 2, 0);
    }

    private static void countsAtLast() {
        CHECK.says("How many");
        SamplingDesk desk = new SamplingDesk();
        for (int i = 0; i < 24; i++) {
            Check.planOf(desk, 1, 0, 1);
        }
        for (int i = 0; i < 8; i++) {
            desk.supplier(0, 0, 0);
        }
        for (int i = 0; i < 60; i++) {
            desk.lot(i % 8, 1);
        }
        desk.risk(0, 60, 1, 1);
        desk.risk(1, 60, 1, 1);
        counts(desk, 24, 24, 8, 60, 0, 2);
        for (int i = 0; i < 60; i++) {
            desk.item(i, i % 4);
        }
        counts(desk, 24, 24, 8, 60, 60, 2);
    }

    private static void counts(SamplingDesk desk, int... want) {
        for (int what = 0; what <= 5; what++) {
            CHECK.due("count(" + what + ")", desk.count(what), want[what]);
        }
        CHECK.due("count(-1)", desk.count(-1), -2);
        CHECK.due("count(6)", desk.count(6), -2);
    }
}
