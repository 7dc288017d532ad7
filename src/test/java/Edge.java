import java.util.function.Supplier;

/** Desks of one kind, made anew for each call, and calls at the edges of what they allow. */
final class Edge {
    /** A call with all its arguments. */
    interface Ask {
        long of(SamplingDesk desk);
    }

    /** A call with one argument left open. */
    interface AskWith {
        long of(SamplingDesk desk, int x);
    }

    private static final int LEAST = Integer.MIN_VALUE;
    private static final int MOST = Integer.MAX_VALUE;

    private final Check check;
    private final Supplier<SamplingDesk> maker;
    private final String untouched;

    Edge(Check check, Supplier<SamplingDesk> maker) {
        this.check = check;
        this.maker = maker;
        untouched = Snapshot.behind(maker, desk -> { });
    }

    void due(String call, Ask ask, long want) {
        check.due(call, ask.of(maker.get()), want);
    }

    /** The call answers -2, and all that can be asked behind it is as it was. */
    void refused(String call, Ask ask) {
        due(call, ask, -2);
        check.due("what stands behind " + call, Snapshot.behind(maker, ask::of), untouched);
    }

    /** The call answers -2 for each x just outside of from .. to, and far outside. */
    void outside(String call, int from, int to, AskWith ask) {
        below(call, from, ask);
        int[] above = {to + 1, to + 2, to + 60, to + 256, to + 65536, MOST - 1, MOST};
        for (int x : above) {
            refused(call + ", " + x, desk -> ask.of(desk, x));
        }
    }

    /** The call answers -2 for each x just below from, and far below. */
    void below(String call, int from, AskWith ask) {
        int[] below = {from - 1, from - 2, from - 60, from - 256, from - 65536, LEAST + 1, LEAST};
        for (int x : below) {
            refused(call + ", " + x, desk -> ask.of(desk, x));
        }
    }

    /** Whether another answer than -2 comes, and the call is seen in what stands behind it. */
    void changes(String call, Ask ask) {
        check.due(call + " is not refused", ask.of(maker.get()) == -2 ? 0 : 1, 1);
        boolean other = !Snapshot.behind(maker, ask::of).equals(untouched);
        check.due(call + " is seen", other ? 1 : 0, 1);
    }
}
