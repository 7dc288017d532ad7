/** Desks with nothing, with some of all, and with all places taken. */
final class Desks {
    private Desks() {
    }

    /**
     * Plans 0, 1, 5, 6 are CLOSED (SIZES 1, 6, 40, 60), 2 has three STAGES, 3 has one of 40, 4 none.
     * Lot 0 is refused, 3 taken; 1 has four items, 4 five, 2 none. Supplier 3 has no lots.
     */
    static SamplingDesk some() {
        SamplingDesk desk = new SamplingDesk();
        Check.planOf(desk, 1, 0, 1);
        Check.planOf(desk, 3, 0, 3, 3, 2, 3);
        Check.planOf(desk, 1, 0, 3, 1, 0, 3, 1, 0, 3);
        Check.planOf(desk, 40, 0, 2);
        desk.plan();
        Check.planOf(desk, 10, -1, 4, 10, 2, 6, 10, 3, 9, 10, 8, 9);
        Check.planOf(desk, 60, 60, 61);
        desk.risk(0, 1, 8, 10);
        desk.risk(1, 7, 1, 10);
        costs(desk);
        desk.supplier(1, 0, 5);
        desk.supplier(0, 1, 1);
        desk.supplier(6, 6, 6);
        desk.supplier(0, 0, 0);
        desk.lot(0, 10);
        desk.lot(0, 10);
        desk.lot(0, 11);
        desk.lot(1, 1);
        desk.lot(2, 60);
        Check.see(desk, 0, 0, 3);
        Check.see(desk, 1, 1, 2, 0, 1);
        Check.see(desk, 3, 0);
        Check.see(desk, 4, 2, 1, 0, 1, 2);
        desk.part(1, 10, 2, 1);
        return desk;
    }

    /** 24 plans, 17 of them CLOSED; 8 suppliers; 60 lots, 20 of them decided; lot 59 has 59 items. */
    static SamplingDesk full() {
        SamplingDesk desk = new SamplingDesk();
        for (int i = 0; i < 23; i++) {
            int plan = desk.plan();
            desk.stage(plan, 1 + i, 1, i % 3 == 2 ? 3 : 2);
        }
        Check.planOf(desk, 60, 60, 61);
        desk.risk(0, 3, 1, 2);
        costs(desk);
        for (int i = 0; i < 7; i++) {
            desk.supplier(3 * i, 0, 1);
        }
        desk.supplier(23, 23, 23);
        for (int i = 0; i < 60; i++) {
            desk.lot(i == 59 ? 7 : i % 8, 60);
        }
        for (int i = 0; i < 59; i += 3) {
            desk.item(i, 3);
        }
        Check.see(desk, 58, 1, 1, 0);
        for (int i = 0; i < 59; i++) {
            desk.item(59, i % 3);
        }
        desk.part(0, 60, 59, 2);
        return desk;
    }

    /** 8 suppliers, each with plans of its own, and no lots. */
    static SamplingDesk allSuppliers() {
        SamplingDesk desk = new SamplingDesk();
        for (int i = 0; i < 24; i++) {
            Check.planOf(desk, 1 + i, 0, 1);
        }
        for (int i = 0; i < 8; i++) {
            desk.supplier(3 * i, 3 * i + 1, 3 * i + 2);
        }
        return desk;
    }

    /** Each CLASS has cents of its own, so that their sum tells the items. */
    private static void costs(SamplingDesk desk) {
        desk.cost(0, 5);
        desk.cost(1, 110);
        desk.cost(2, 1300);
        desk.cost(3, 99000);
    }
}
