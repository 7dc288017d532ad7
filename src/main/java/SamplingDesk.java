/** A desk for acceptance sampling: plans, their exact parts, searches, lots and suppliers. */
public final class SamplingDesk {
    private static final int WRONG = -2;
    private static final int NONE = -1;

    private static final int MOST_PLANS = 24;
    private static final int MOST_STAGES = 4;
    private static final int MOST_ITEMS = 60;
    private static final int MOST_SUPPLIERS = 8;
    private static final int MOST_LOTS = 60;
    private static final int MOST_PLACES = 6;
    private static final int MOST_DOWN = 1000;
    private static final int MOST_CENTS = 100000;

    private static final int PART_TAKEN = 0;
    private static final int AVERAGE = 1;
    private static final int OUTGOING = 2;

    private static final int NORMAL = 0;
    private static final int TIGHT = 1;
    private static final int REDUCED = 2;
    private static final int RULES = 3;

    private static final int UNDECIDED = 0;
    private static final int TAKEN = 1;
    private static final int REFUSED = 2;

    private static final int GOOD = 0;
    private static final int MINOR = 1;
    private static final int MAJOR = 2;
    private static final int CRITICAL = 3;
    private static final int CLASSES = 4;
    private static final int MINORS_OF_A_DEFECT = 3;

    // Euclid needs fewer than a hundred steps for any two longs.
    private static final int MOST_EUCLID_STEPS = 200;

    private final Ways ways;
    private final Part partAtHand;
    private final Plan[] plans;
    private int planCount;
    private final Risk leastTaken;
    private final Risk mostTaken;
    private final Supplier[] suppliers;
    private int supplierCount;
    private final Lot[] lots;
    private int lotCount;
    private final int[] costs;

    public SamplingDesk() {
        ways = new Ways();
        partAtHand = new Part();
        plans = new Plan[MOST_PLANS];
        leastTaken = new Risk();
        mostTaken = new Risk();
        suppliers = new Supplier[MOST_SUPPLIERS];
        lots = new Lot[MOST_LOTS];
        costs = new int[CLASSES];
    }

    // ---- plans

    public int plan() {
        if (planCount >= MOST_PLANS) {
            return WRONG;
        }
        plans[planCount] = new Plan();
        planCount++;
        return planCount - 1;
    }

    public int stage(int plan, int size, int accept, int refuse) {
        Plan grown = planAt(plan);
        if (grown == null || !grown.append(size, accept, refuse, ways)) {
            return WRONG;
        }
        return grown.stages;
    }

    public int of(int plan, int k, int what) {
        Plan told = planAt(plan);
        if (told == null || !told.hasStage(k)) {
            return WRONG;
        }
        switch (what) {
            case 0:
                return told.sizes[k];
            case 1:
                return told.accepts[k];
            case 2:
                return told.refuses[k];
            default:
                return WRONG;
        }
    }

    // ---- parts of all orders

    public int part(int plan, int n, int d, int what) {
        Plan told = planForLot(plan, n);
        if (told == null || d < 0 || d > n || what < PART_TAKEN || what > OUTGOING) {
            return WRONG;
        }
        long orders = ways.choose(n, d);
        long below = what == OUTGOING ? orders * n : orders;
        partAtHand.become(told.sumOverOrders(ways, n, d, what), below);
        return 1;
    }

    public long up() {
        return partAtHand.above;
    }

    public long down() {
        return partAtHand.below;
    }

    public long rounded(int places) {
        if (places < 0 || places > MOST_PLACES) {
            return WRONG;
        }
        return partAtHand.scaled(places);
    }

    public int compare(int a, int b, int n, int d) {
        Plan first = planForLot(a, n);
        Plan second = planForLot(b, n);
        if (first == null || second == null || d < 0 || d > n) {
            return WRONG;
        }
        return signOfTaken(first, second, n, d);
    }

    public int crossing(int a, int b, int n, int k) {
        Plan first = planForLot(a, n);
        Plan second = planForLot(b, n);
        if (first == null || second == null || k < 0) {
            return WRONG;
        }
        int found = 0;
        int sign = signOfTaken(first, second, n, 0);
        for (int d = 0; d < n; d++) {
            int next = signOfTaken(first, second, n, d + 1);
            if (sign != 0 && next == -sign) {
                if (found == k) {
                    return d;
                }
                found++;
            }
            sign = next;
        }
        return NONE;
    }

    /** 1, 0 or -1 as the first plan takes more, as many or fewer of the same orders. */
    private int signOfTaken(Plan first, Plan second, int n, int d) {
        long firstTaken = first.sumOverOrders(ways, n, d, PART_TAKEN);
        long secondTaken = second.sumOverOrders(ways, n, d, PART_TAKEN);
        if (firstTaken == secondTaken) {
            return 0;
        }
        return firstTaken > secondTaken ? 1 : -1;
    }

    private Plan planAt(int number) {
        return number >= 0 && number < planCount ? plans[number] : null;
    }

    private Plan closedPlanAt(int number) {
        Plan found = planAt(number);
        return found != null && found.closed ? found : null;
    }

    /** The CLOSED plan of this number, if a lot of n items can be seen by it. */
    private Plan planForLot(int number, int n) {
        Plan found = closedPlanAt(number);
        return found != null && isLotSize(n) && found.total() <= n ? found : null;
    }

    private static boolean isLotSize(int n) {
        return n >= 1 && n <= MOST_ITEMS;
    }

    // ---- least plans for told risks

    public int risk(int which, int d, int up, int down) {
        if (which != 0 && which != 1) {
            return WRONG;
        }
        if (d < 0 || d > MOST_ITEMS || down < 1 || down > MOST_DOWN || up < 0 || up > down) {
            return WRONG;
        }
        Risk told = which == 0 ? leastTaken : mostTaken;
        told.tell(d, up, down);
        return 1;
    }

    public int forget() {
        int were = risksTold();
        leastTaken.told = false;
        mostTaken.told = false;
        return were;
    }

    public int search(int n) {
        if (!canSearch(n)) {
            return WRONG;
        }
        // The first of the minimal plans has the least size, and there the least accept.
        return minimalPlan(n, 0);
    }

    public int minimal(int n, int k) {
        if (!canSearch(n) || k < 0) {
            return WRONG;
        }
        return minimalPlan(n, k);
    }

    private int risksTold() {
        return (leastTaken.told ? 1 : 0) + (mostTaken.told ? 1 : 0);
    }

    private boolean canSearch(int n) {
        return isLotSize(n) && leastTaken.fits(n) && mostTaken.fits(n);
    }

    /** A plan is minimal when its accept is below that of every smaller plan that HOLDS. */
    private int minimalPlan(int n, int k) {
        int found = 0;
        int leastSoFar = MOST_ITEMS + 1;
        for (int size = 1; size <= n; size++) {
            int accept = leastAccept(n, size);
            if (accept != NONE && accept < leastSoFar) {
                if (found == k) {
                    return 100 * size + accept;
                }
                found++;
                leastSoFar = accept;
            }
        }
        return NONE;
    }

    /** The least accept with which a single plan of this size HOLDS for a lot of n. */
    private int leastAccept(int n, int size) {
        long ordersForLeast = ways.choose(n, leastTaken.defective);
        long ordersForMost = ways.choose(n, mostTaken.defective);
        long takenForLeast = 0;
        long takenForMost = 0;
        for (int accept = 0; accept <= size; accept++) {
            takenForLeast += ordersWith(n, leastTaken.defective, size, accept);
            takenForMost += ordersWith(n, mostTaken.defective, size, accept);
            if (leastTaken.isReached(takenForLeast, ordersForLeast)
                    && mostTaken.isKept(takenForMost, ordersForMost)) {
                return accept;
            }
        }
        return NONE;
    }

    /** In how many orders the first items, so many as size, have just x defective ones. */
    private long ordersWith(int n, int d, int size, int x) {
        return ways.choose(size, x) * ways.choose(n - size, d - x);
    }

    // ---- suppliers and lots

    public int supplier(int normal, int tight, int reduced) {
        if (closedPlanAt(normal) == null || closedPlanAt(tight) == null
                || closedPlanAt(reduced) == null || supplierCount >= MOST_SUPPLIERS) {
            return WRONG;
        }
        suppliers[supplierCount] = new Supplier(normal, tight, reduced);
        supplierCount++;
        return supplierCount - 1;
    }

    public int lot(int supplier, int size) {
        Supplier from = supplierAt(supplier);
        if (from == null || lotCount >= MOST_LOTS) {
            return WRONG;
        }
        Plan seenBy = planForLot(from.planNow(), size);
        if (seenBy == null) {
            return WRONG;
        }
        lots[lotCount] = new Lot(supplier, size, seenBy, from.planNow(), from.ruleNow);
        lotCount++;
        return lotCount - 1;
    }

    public int item(int lot, int which) {
        Lot open = openLotAt(lot);
        if (open == null || !isClass(which)) {
            return WRONG;
        }
        open.see(which);
        return settle(open);
    }

    public int undo(int lot) {
        Lot open = openLotAt(lot);
        if (open == null || open.seen == 0) {
            return WRONG;
        }
        open.seeAgain(open.seen - 1);
        return open.seen;
    }

    public int correct(int lot, int i, int which) {
        Lot open = openLotAt(lot);
        if (open == null || !open.hasItem(i) || !isClass(which)) {
            return WRONG;
        }
        open.items[i] = which;
        open.seeAgain(open.seen);
        return settle(open);
    }

    public int about(int lot, int what) {
        Lot told = lotAt(lot);
        if (told == null) {
            return WRONG;
        }
        switch (what) {
            case 0:
                return told.state;
            case 1:
                return told.seen;
            case 2:
                return told.defects();
            case 3:
                return told.stageAtHand;
            case 4:
                return told.planNumber;
            case 5:
                return told.size;
            case 6:
                return told.ruleItCameBy;
            default:
                return WRONG;
        }
    }

    public int needed(int lot) {
        Lot told = lotAt(lot);
        return told == null ? WRONG : told.leastFurther();
    }

    public int rule(int supplier) {
        Supplier told = supplierAt(supplier);
        return told == null ? WRONG : told.ruleNow;
    }

    public int run(int supplier, int k) {
        Supplier told = supplierAt(supplier);
        if (told == null || k < 0) {
            return WRONG;
        }
        return told.latest(k);
    }

    /** What a lot is behind a change; a decided one goes to its supplier's RUN. */
    private int settle(Lot changed) {
        Supplier from = supplierAt(changed.supplierNumber);
        if (changed.state != UNDECIDED && from != null) {
            from.receive(changed.state);
        }
        return changed.state;
    }

    private Supplier supplierAt(int number) {
        return number >= 0 && number < supplierCount ? suppliers[number] : null;
    }

    private Lot lotAt(int number) {
        return number >= 0 && number < lotCount ? lots[number] : null;
    }

    private Lot openLotAt(int number) {
        Lot found = lotAt(number);
        return found != null && found.state == UNDECIDED ? found : null;
    }

    private static boolean isClass(int which) {
        return which >= GOOD && which <= CRITICAL;
    }

    // ---- costs and counts

    public int cost(int which, int cents) {
        if (!isClass(which) || cents < 0 || cents > MOST_CENTS) {
            return WRONG;
        }
        int before = costs[which];
        costs[which] = cents;
        return before;
    }

    public long score(int supplier, int what) {
        Supplier told = supplierAt(supplier);
        if (told == null || what < 0 || what > 6) {
            return WRONG;
        }
        if (what == 6) {
            return told.ruleChanges;
        }
        long sum = 0;
        for (int i = 0; i < lotCount; i++) {
            Lot one = lotAt(i);
            if (one != null && one.supplierNumber == supplier) {
                sum += scoreOfLot(one, what);
            }
        }
        return sum;
    }

    public int count(int what) {
        switch (what) {
            case 0:
                return planCount;
            case 1:
                return closedPlans();
            case 2:
                return supplierCount;
            case 3:
                return lotCount;
            case 4:
                return decidedLots();
            case 5:
                return risksTold();
            default:
                return WRONG;
        }
    }

    private long scoreOfLot(Lot one, int what) {
        switch (what) {
            case 0:
                return one.state == TAKEN ? 1 : 0;
            case 1:
                return one.state == REFUSED ? 1 : 0;
            case 2:
                return one.state == UNDECIDED ? 1 : 0;
            case 3:
                return one.seen;
            case 4:
                return one.seen - one.tally[GOOD];
            default:
                return one.cents(costs);
        }
    }

    private int closedPlans() {
        int closed = 0;
        for (int i = 0; i < planCount; i++) {
            if (closedPlanAt(i) != null) {
                closed++;
            }
        }
        return closed;
    }

    private int decidedLots() {
        int decided = 0;
        for (int i = 0; i < lotCount; i++) {
            if (openLotAt(i) == null) {
                decided++;
            }
        }
        return decided;
    }

    /** In how many ways k of n things can be chosen; all of them for n up to 60 fit a long. */
    private static final class Ways {
        private final long[][] rows = new long[MOST_ITEMS + 1][MOST_ITEMS + 1];

        Ways() {
            rows[0][0] = 1;
            for (int n = 1; n <= MOST_ITEMS; n++) {
                rows[n][0] = 1;
                for (int k = 1; k <= n; k++) {
                    rows[n][k] = rows[n - 1][k - 1] + rows[n - 1][k];
                }
            }
        }

        long choose(int n, int k) {
            if (n < 0 || n > MOST_ITEMS || k < 0 || k > n) {
                return 0;
            }
            return rows[n][k];
        }
    }

    /** A part (fraction) that is not below 0, in lowest terms. */
    private static final class Part {
        private long above = 0;
        private long below = 1;

        void become(long up, long down) {
            long common = commonDivisor(up, down);
            if (common <= 0) {
                return;
            }
            above = up / common;
            below = down / common;
        }

        private static long commonDivisor(long a, long b) {
            long greater = a;
            long lesser = b;
            for (int step = 0; step < MOST_EUCLID_STEPS && lesser != 0; step++) {
                long rest = greater % lesser;
                greater = lesser;
                lesser = rest;
            }
            return greater;
        }

        /** Times 10 to the places, to the nearest whole number, of two the even one. */
        long scaled(int places) {
            if (below <= 0) {
                return 0;
            }
            long whole = above / below;
            long rest = above % below;
            for (int place = 0; place < places; place++) {
                long tenfold = 0;
                whole = 10 * whole;
                // Ten times the rest can be more than a long holds, so it is added up, less what
                // is below the line whenever it gets there.
                for (int i = 0; i < 10; i++) {
                    if (tenfold >= below - rest) {
                        tenfold -= below - rest;
                        whole++;
                    } else {
                        tenfold += rest;
                    }
                }
                rest = tenfold;
            }
            long lacking = below - rest;
            boolean goesUp = rest > lacking || rest == lacking && whole % 2 != 0;
            return goesUp ? whole + 1 : whole;
        }
    }

    /** STAGES, and for the end of each how many ways lead to it with so many defective items. */
    private static final class Plan {
        private final int[] sizes = new int[MOST_STAGES];
        private final int[] accepts = new int[MOST_STAGES];
        private final int[] refuses = new int[MOST_STAGES];
        private final int[] ends = new int[MOST_STAGES];
        private final long[][] reached = new long[MOST_STAGES][MOST_ITEMS + 1];
        private int stages;
        private boolean closed;

        boolean hasStage(int k) {
            return k >= 0 && k < stages;
        }

        int total() {
            return hasStage(stages - 1) ? ends[stages - 1] : 0;
        }

        private boolean admits(int size, int accept, int refuse) {
            if (closed || stages >= MOST_STAGES) {
                return false;
            }
            if (size < 1 || size > MOST_ITEMS || total() + size > MOST_ITEMS) {
                return false;
            }
            if (accept < -1 || accept > MOST_ITEMS || refuse <= accept || refuse > MOST_ITEMS + 1) {
                return false;
            }
            return stages < MOST_STAGES - 1 || refuse == accept + 1;
        }

        /** Whether there is a STAGE more. */
        boolean append(int size, int accept, int refuse, Ways ways) {
            if (!admits(size, accept, refuse)) {
                return false;
            }
            int k = stages;
            int start = total();
            sizes[k] = size;
            accepts[k] = accept;
            refuses[k] = refuse;
            ends[k] = start + size;
            for (int before = 0; before <= start; before++) {
                long open = openWays(k, before);
                for (int more = 0; more <= size; more++) {
                    reached[k][before + more] += open * ways.choose(size, more);
                }
            }
            stages++;
            closed = refuse == accept + 1;
            return true;
        }

        /** In how many ways STAGE k begins behind so many defective items. */
        private long openWays(int k, int defective) {
            if (k == 0) {
                return defective == 0 ? 1 : 0;
            }
            return isDecidedAt(k - 1, defective) ? 0 : reached[k - 1][defective];
        }

        boolean isTakenAt(int k, int defects) {
            return hasStage(k) && defects <= accepts[k];
        }

        boolean isRefusedAt(int k, int defects) {
            return hasStage(k) && defects >= refuses[k];
        }

        private boolean isDecidedAt(int k, int defects) {
            return isTakenAt(k, defects) || isRefusedAt(k, defects);
        }

        boolean isEndOf(int k, int items) {
            return hasStage(k) && items == ends[k];
        }

        /**
         * The sum over all orders of 1 for a lot that is TAKEN, of the items of the STAGES gone
         * through, or of the defective items let out. Defects never get fewer within a STAGE, so
         * its end tells whether the lot was REFUSED ahead of it. No sum is above 60 times the
         * orders of 30 in 60, which a long holds.
         */
        long sumOverOrders(Ways ways, int n, int d, int what) {
            long sum = 0;
            for (int k = 0; k < stages; k++) {
                for (int x = 0; x <= ends[k] && x <= d; x++) {
                    sum += weight(k, x, d, what) * reached[k][x] * ways.choose(n - ends[k], d - x);
                }
            }
            return sum;
        }

        private long weight(int k, int x, int d, int what) {
            switch (what) {
                case PART_TAKEN:
                    return isTakenAt(k, x) ? 1 : 0;
                case AVERAGE:
                    return isDecidedAt(k, x) ? ends[k] : 0;
                default:
                    return isTakenAt(k, x) ? d - x : 0;
            }
        }
    }

    /** A told part against which the PART TAKEN with so many defective items is held. */
    private static final class Risk {
        private boolean told;
        private int defective;
        private int above;
        private int below = 1;

        void tell(int d, int up, int down) {
            told = true;
            defective = d;
            above = up;
            below = down;
        }

        boolean fits(int n) {
            return !told || defective <= n;
        }

        boolean isReached(long taken, long orders) {
            return !told || against(taken, orders) >= 0;
        }

        boolean isKept(long taken, long orders) {
            return !told || against(taken, orders) <= 0;
        }

        /** 1, 0 or -1 as taken by orders is above, at or below the told part. */
        private int against(long taken, long orders) {
            if (below <= 0) {
                return 0;
            }
            // Orders times what is above the line can be more than a long holds, so they are
            // divided first.
            long ofRest = orders % below * above;
            long share = orders / below * above + ofRest / below;
            if (taken != share) {
                return taken > share ? 1 : -1;
            }
            return ofRest % below == 0 ? 0 : -1;
        }
    }

    /** A supplier's plans by rule, its rule now and its RUN, the latest lot last. */
    private static final class Supplier {
        private final int[] planOfRule = new int[RULES];
        private final int[] decisions = new int[MOST_LOTS];
        private int decisionCount;
        private int ruleNow = NORMAL;
        private int ruleChanges;

        Supplier(int normal, int tight, int reduced) {
            planOfRule[NORMAL] = normal;
            planOfRule[TIGHT] = tight;
            planOfRule[REDUCED] = reduced;
        }

        int planNow() {
            return ruleNow >= NORMAL && ruleNow < RULES ? planOfRule[ruleNow] : NONE;
        }

        int latest(int k) {
            return k >= 0 && k < decisionCount ? decisions[decisionCount - 1 - k] : UNDECIDED;
        }

        void receive(int decision) {
            if (decisionCount >= MOST_LOTS) {
                return;
            }
            decisions[decisionCount] = decision;
            decisionCount++;
            int next = nextRule();
            if (next != ruleNow) {
                ruleNow = next;
                ruleChanges++;
                decisionCount = 0;
            }
        }

        private int nextRule() {
            switch (ruleNow) {
                case NORMAL:
                    if (amongLatest(5, REFUSED) >= 2) {
                        return TIGHT;
                    }
                    return amongLatest(6, TAKEN) == 6 ? REDUCED : NORMAL;
                case TIGHT:
                    return amongLatest(5, TAKEN) == 5 ? NORMAL : TIGHT;
                default:
                    return latest(0) == REFUSED ? NORMAL : REDUCED;
            }
        }

        private int amongLatest(int many, int decision) {
            int found = 0;
            for (int k = 0; k < many; k++) {
                if (latest(k) == decision) {
                    found++;
                }
            }
            return found;
        }
    }

    /** A lot with its items by CLASS, decided at the first item that decides. */
    private static final class Lot {
        private final int supplierNumber;
        private final int size;
        private final Plan seenBy;
        private final int planNumber;
        private final int ruleItCameBy;
        private final int[] items = new int[MOST_ITEMS];
        private final int[] tally = new int[CLASSES];
        private int seen;
        private int stageAtHand;
        private int state = UNDECIDED;

        Lot(int supplierNumber, int size, Plan seenBy, int planNumber, int ruleItCameBy) {
            this.supplierNumber = supplierNumber;
            this.size = size;
            this.seenBy = seenBy;
            this.planNumber = planNumber;
            this.ruleItCameBy = ruleItCameBy;
        }

        boolean hasItem(int i) {
            return i >= 0 && i < seen;
        }

        int defects() {
            return tally[MAJOR] + tally[CRITICAL] + tally[MINOR] / MINORS_OF_A_DEFECT;
        }

        void see(int which) {
            if (state != UNDECIDED || seen >= MOST_ITEMS || !isClass(which)) {
                return;
            }
            items[seen] = which;
            seen++;
            tally[which]++;
            int defects = defects();
            if (which == CRITICAL || seenBy.isRefusedAt(stageAtHand, defects)) {
                state = REFUSED;
            } else if (seenBy.isEndOf(stageAtHand, seen)) {
                if (seenBy.isTakenAt(stageAtHand, defects)) {
                    state = TAKEN;
                } else {
                    stageAtHand++;
                }
            }
        }

        /** Its first items come anew, as they are told now, up to one that decides. */
        void seeAgain(int many) {
            seen = 0;
            stageAtHand = 0;
            state = UNDECIDED;
            for (int which = GOOD; which < CLASSES; which++) {
                tally[which] = 0;
            }
            for (int i = 0; i < many && i < MOST_ITEMS; i++) {
                see(items[i]);
            }
        }

        /**
         * Until some items can decide, each item may leave the defects or add one, so behind so
         * many items they can be any number from those now to as many more.
         */
        int leastFurther() {
            if (state != UNDECIDED) {
                return 0;
            }
            int defects = defects();
            int k = stageAtHand;
            for (int more = 1; seen + more < seenBy.total(); more++) {
                boolean atEnd = seenBy.isEndOf(k, seen + more);
                if (seenBy.isRefusedAt(k, defects + more) || atEnd && seenBy.isTakenAt(k, defects)) {
                    return more;
                }
                if (atEnd) {
                    k++;
                }
            }
            // The end of the last STAGE decides in any case.
            return seenBy.total() - seen;
        }

        long cents(int[] costs) {
            long sum = 0;
            for (int which = GOOD; which < CLASSES && which < costs.length; which++) {
                sum += (long) tally[which] * costs[which];
            }
            return sum;
        }
    }
}
