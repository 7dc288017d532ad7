import java.util.function.Consumer;
import java.util.function.Supplier;

/**
 * All that can be asked of a desk behind some call. It is more than an object's 512 calls allow, and
 * some of it can be seen by changes alone, so the desk is made and the call is made anew for each page.
 */
final class Snapshot {
    private static final int PLANS = 24;
    private static final int SUPPLIERS = 8;
    private static final int LOTS = 60;

    private final Supplier<SamplingDesk> maker;
    private final Consumer<SamplingDesk> call;
    private final StringBuilder told = new StringBuilder();

    private Snapshot(Supplier<SamplingDesk> maker, Consumer<SamplingDesk> call) {
        this.maker = maker;
        this.call = call;
    }

    static String behind(Supplier<SamplingDesk> maker, Consumer<SamplingDesk> call) {
        Snapshot all = new Snapshot(maker, call);
        all.partCountsAndCosts(all.page("part"));
        all.searches(all.page("RISKS"), -1);
        all.searches(all.page("RISK 0"), 1);
        all.searches(all.page("RISK 1"), 0);
        for (int from = 0; from < PLANS; from += 12) {
            all.plans(all.page("plans"), from, from + 12);
        }
        all.suppliers(all.page("suppliers"));
        all.plansOfSuppliers(all.page("plans of suppliers"));
        for (int from = 0; from < LOTS; from += 20) {
            all.lots(all.page("lots"), from, from + 20);
        }
        for (int supplier = 0; supplier < SUPPLIERS; supplier++) {
            all.items(all.page("items"), supplier);
        }
        return all.told.toString();
    }

    private SamplingDesk page(String name) {
        told.append("\n").append(name).append(':');
        SamplingDesk desk = maker.get();
        call.accept(desk);
        return desk;
    }

    private void tell(long answer) {
        told.append(' ').append(answer);
    }

    private void partCountsAndCosts(SamplingDesk desk) {
        tell(desk.up());
        tell(desk.down());
        tell(desk.rounded(6));
        for (int what = 0; what < 6; what++) {
            tell(desk.count(what));
        }
        for (int which = 0; which < 4; which++) {
            tell(desk.cost(which, 0));
        }
        tell(desk.forget());
    }

    /** The other RISK, if there is one to be put aside, becomes one that every plan HOLDS for. */
    private void searches(SamplingDesk desk, int aside) {
        if (aside >= 0) {
            desk.risk(aside, 0, aside == 0 ? 0 : 1, 1);
        }
        for (int n = 1; n <= 60; n++) {
            tell(desk.search(n));
        }
    }

    private void plans(SamplingDesk desk, int from, int to) {
        for (int plan = from; plan < to; plan++) {
            for (int i = 0; i < 12; i++) {
                tell(desk.of(plan, i / 3, i % 3));
            }
            tell(desk.part(plan, 60, 20, 1));
            tell(desk.rounded(6));
        }
    }

    private void suppliers(SamplingDesk desk) {
        for (int supplier = 0; supplier < SUPPLIERS; supplier++) {
            tell(desk.rule(supplier));
            for (int what = 0; what < 7; what++) {
                tell(desk.score(supplier, what));
            }
            int latest = desk.run(supplier, 0);
            for (int k = 1; latest > 0; k++) {
                tell(latest);
                latest = desk.run(supplier, k);
            }
        }
    }

    /** They show in new lots, those of TIGHT behind two refused ones. */
    private void plansOfSuppliers(SamplingDesk desk) {
        for (int supplier = 0; supplier < SUPPLIERS; supplier++) {
            for (int i = 0; i < 3; i++) {
                int lot = desk.lot(supplier, 60);
                tell(lot);
                tell(desk.about(lot, 4));
                tell(desk.item(lot, 3));
            }
        }
    }

    private void lots(SamplingDesk desk, int from, int to) {
        for (int lot = from; lot < to; lot++) {
            for (int what = 0; what < 7; what++) {
                tell(desk.about(lot, what));
            }
            tell(desk.needed(lot));
        }
    }

    /** What each item of an undecided lot is, from the last one on, shows in its supplier's cents. */
    private void items(SamplingDesk desk, int supplier) {
        if (desk.rule(supplier) == -2) {
            return;
        }
        for (int lot = 0; lot < LOTS; lot++) {
            while (desk.undo(lot) >= 0) {
                tell(desk.score(supplier, 5));
            }
        }
    }
}
