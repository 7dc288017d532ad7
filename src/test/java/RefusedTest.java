import java.util.function.Supplier;
import java.util.function.ToLongFunction;

/** Every reason for which a promise answers -2: nothing has changed behind the call. */
public final class RefusedTest {
    private static final Check CHECK = new Check();
    private static final int LEAST = Integer.MIN_VALUE;
    private static final int MOST = Integer.MAX_VALUE;

    private final Supplier<SamplingDesk> maker;
    private final String untouched;

    private RefusedTest(Supplier<SamplingDesk> maker) {
        this.maker = maker;
        untouched = stateOf(maker.get());
    }

    public static void main(String[] args) {
        RefusedTest some = new RefusedTest(RefusedTest::someOfAll);
        some.plansAndParts();
        some.risks();
        some.suppliersAndLots();
        some.items();
        some.questions();
        RefusedTest full = new RefusedTest(RefusedTest::fullDesk);
        full.refused("plan(), 24", x -> x.plan());
        full.refused("supplier(0, 0, 0), 8", x -> x.supplier(0, 0, 0));
        full.refused("lot(0, 9), 60", x -> x.lot(0, 9));
        theStateTells();
        CHECK.finish("RefusedTest");
    }

    /** Plans 0, 1 closed, 2 to 4 not; lot 0 refused, 1 and 2 undecided; both RISKS. */
    private static SamplingDesk someOfAll() {
        SamplingDesk desk = new SamplingDesk();
        Check.planOf(desk, 1, 0, 1);
        Check.planOf(desk, 3, 0, 3, 3, 2, 3);
        Check.planOf(desk, 1, 0, 3, 1, 0, 3, 1, 0, 3);
        Check.planOf(desk, 40, 0, 2);
        desk.plan();
        desk.risk(0, 1, 8, 10);
        desk.risk(1, 7, 1, 10);
        for (int which = 0; which < 4; which++) {
            desk.cost(which, 5 + 10 * which);
        }
        desk.supplier(1, 0, 0);
        desk.supplier(0, 1, 1);
        for (int i = 0; i < 3; i++) {
            desk.lot(0, 10);
        }
        Check.see(desk, 0, 0, 3);
        Check.see(desk, 1, 1, 2, 0, 1);
        desk.part(1, 10, 2, 1);
        return desk;
    }

    private static SamplingDesk fullDesk() {
        SamplingDesk desk = new SamplingDesk();
        Check.planOf(desk, 1, 0, 1);
        for (int i = 1; i < 24; i++) {
            desk.plan();
        }
        for (int i = 0; i < 8; i++) {
            desk.supplier(0, 0, 0);
        }
        for (int i = 0; i < 60; i++) {
            desk.lot(i % 8, 10);
        }
        return desk;
    }

    /** All that can be asked; the object is of no more use behind it. */
    private static String stateOf(SamplingDesk desk) {
        StringBuilder state = new StringBuilder(Check.partOf(desk));
        for (int what = 0; what < 6; what++) {
            state.append(" count ").append(desk.count(what));
        }
        for (int plan = 0; plan < 5; plan++) {
            for (int i = 0; i < 12; i++) {
                state.append(' ').append(desk.of(plan, i / 3, i % 3));
            }
            state.append(" part ").append(desk.part(plan, 60, 20, 0)).append(' ').append(Check.partOf(desk));
        }
        for (int supplier = 0; supplier < 3; supplier++) {
            state.append(" rule ").append(desk.rule(supplier)).append(" run ").append(desk.run(supplier, 0));
            state.append(desk.run(supplier, 1)).append(" score");
            for (int what = 0; what < 7; what++) {
                state.append(' ').append(desk.score(supplier, what));
            }
        }
        for (int lot = 0; lot < 4; lot++) {
            do {
                state.append(" lot");
                for (int what = 0; what < 7; what++) {
                    state.append(' ').append(desk.about(lot, what));
                }
                state.append(" needs ").append(desk.needed(lot));
            } while (desk.undo(lot) >= 0);
        }
        for (int which = 0; which < 4; which++) {
            state.append(" cost ").append(desk.cost(which, 0));
        }
        for (int n = 5; n <= 60; n += 5) {
            state.append(" search ").append(desk.search(n));
        }
        return state.append(" told ").append(desk.forget()).toString();
    }

    private void refused(String call, ToLongFunction<SamplingDesk> asked) {
        SamplingDesk desk = maker.get();
        CHECK.due(call, asked.applyAsLong(desk), -2);
        CHECK.due("behind " + call, stateOf(desk), untouched);
    }

    private void plansAndParts() {
        refused("stage, no plan", x -> x.stage(5, 1, 0, 1));
        refused("stage, plan -1", x -> x.stage(-1, 1, 0, 1));
        refused("stage, closed", x -> x.stage(0, 1, 0, 1));
        refused("stage, fourth that is open", x -> x.stage(2, 1, 0, 2));
        refused("stage, size 0", x -> x.stage(4, 0, 0, 1));
        refused("stage, size 61", x -> x.stage(4, 61, 0, 1));
        refused("stage, accept -2", x -> x.stage(4, 1, -2, 1));
        refused("stage, accept 61", x -> x.stage(4, 1, 61, 62));
        refused("stage, refuse not above", x -> x.stage(4, 1, 3, 3));
        refused("stage, refuse 62", x -> x.stage(4, 1, 3, 62));
        refused("stage, 61 together", x -> x.stage(3, 21, 0, 1));
        refused("stage, most", x -> x.stage(4, MOST, MOST, LEAST));
        refused("part, no plan", x -> x.part(5, 10, 2, 0));
        refused("part, not closed", x -> x.part(2, 10, 2, 0));
        refused("part, n 0", x -> x.part(0, 0, 0, 0));
        refused("part, n 61", x -> x.part(0, 61, 0, 0));
        refused("part, d -1", x -> x.part(0, 10, -1, 0));
        refused("part, d 11", x -> x.part(0, 10, 11, 0));
        refused("part, SIZES above n", x -> x.part(1, 5, 1, 0));
        refused("part, what 3", x -> x.part(0, 10, 2, 3));
        refused("compare, a", x -> x.compare(2, 0, 10, 2));
        refused("compare, b", x -> x.compare(0, 2, 10, 2));
        refused("crossing, a", x -> x.crossing(2, 0, 10, 0));
        refused("crossing, b", x -> x.crossing(0, 2, 10, 0));
        refused("crossing, k -1", x -> x.crossing(0, 1, 10, -1));
        refused("rounded(7)", x -> x.rounded(7));
    }

    private void risks() {
        refused("risk, which 2", x -> x.risk(2, 3, 1, 2));
        refused("risk, which -1", x -> x.risk(-1, 3, 1, 2));
        refused("risk, d 61", x -> x.risk(0, 61, 1, 2));
        refused("risk, d -1", x -> x.risk(1, -1, 1, 2));
        refused("risk, down 0", x -> x.risk(0, 3, 0, 0));
        refused("risk, down 1001", x -> x.risk(1, 3, 1, 1001));
        refused("risk, up -1", x -> x.risk(0, 3, -1, 2));
        refused("risk, up 3", x -> x.risk(1, 3, 3, 2));
        refused("search(0)", x -> x.search(0));
        refused("search(61)", x -> x.search(61));
        refused("search(6), d 7", x -> x.search(6));
        refused("minimal(6, 0), d 7", x -> x.minimal(6, 0));
        refused("minimal(10, -1)", x -> x.minimal(10, -1));
    }

    private void suppliersAndLots() {
        refused("supplier, normal", x -> x.supplier(2, 0, 0));
        refused("supplier, tight", x -> x.supplier(0, 5, 0));
        refused("supplier, reduced", x -> x.supplier(0, 0, -1));
        refused("lot, supplier 2", x -> x.lot(2, 10));
        refused("lot, supplier -1", x -> x.lot(-1, 10));
        refused("lot, size 0", x -> x.lot(1, 0));
        refused("lot, size 61", x -> x.lot(1, 61));
        refused("lot, below the SIZES", x -> x.lot(0, 5));
        refused("cost, class 4", x -> x.cost(4, 1));
        refused("cost, class -1", x -> x.cost(-1, 1));
        refused("cost, cents -1", x -> x.cost(0, -1));
        refused("cost, cents 100001", x -> x.cost(0, 100001));
    }

    private void items() {
        refused("item, lot 3", x -> x.item(3, 0));
        refused("item, lot -1", x -> x.item(-1, 0));
        refused("item, decided", x -> x.item(0, 0));
        refused("item, class 4", x -> x.item(1, 4));
        refused("item, class -1", x -> x.item(1, -1));
        refused("undo, lot 3", x -> x.undo(3));
        refused("undo, decided", x -> x.undo(0));
        refused("undo, none seen", x -> x.undo(2));
        refused("correct, lot 3", x -> x.correct(3, 0, 0));
        refused("correct, decided", x -> x.correct(0, 0, 1));
        refused("correct, item 4", x -> x.correct(1, 4, 0));
        refused("correct, item -1", x -> x.correct(1, -1, 0));
        refused("correct, item 0 of none", x -> x.correct(2, 0, 0));
        refused("correct, class 4", x -> x.correct(1, 0, 4));
        refused("correct, class -1", x -> x.correct(1, 0, -1));
    }

    private void questions() {
        refused("of", x -> x.of(0, 1, 0));
        refused("about", x -> x.about(0, 7));
        refused("needed", x -> x.needed(3));
        refused("rule", x -> x.rule(2));
        refused("run", x -> x.run(0, LEAST));
        refused("score", x -> x.score(0, 7));
        refused("count", x -> x.count(6));
    }

    /** The state is no proof of anything unless calls that change something change it. */
    private static void theStateTells() {
        changes("plan", x -> x.plan());
        changes("stage", x -> x.stage(4, 1, 0, 3));
        changes("part", x -> x.part(0, 10, 2, 0));
        changes("risk", x -> x.risk(0, 1, 7, 10));
        changes("forget", x -> x.forget());
        changes("supplier", x -> x.supplier(0, 0, 0));
        changes("lot", x -> x.lot(1, 10));
        changes("item", x -> x.item(2, 0));
        changes("undo", x -> x.undo(1));
        changes("correct", x -> x.correct(1, 0, 0));
        changes("cost", x -> x.cost(2, 1));
    }

    private static void changes(String call, ToLongFunction<SamplingDesk> asked) {
        SamplingDesk desk = someOfAll();
        boolean answered = asked.applyAsLong(desk) != -2;
        boolean other = !stateOf(desk).equals(stateOf(someOfAll()));
        CHECK.due(call + " changes the state", answered && other ? 1 : 0, 1);
    }
}
