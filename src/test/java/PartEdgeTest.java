/** Terms 2 and promises 5 to 10, sentence by sentence, up to the last value that is allowed. */
public final class PartEdgeTest {
    private static final Check CHECK = new Check();
    private static final int MOST = Integer.MAX_VALUE;

    public static void main(String[] args) {
        lotsOfNoneAndOfAllDefective();
        sizesAsTheLot();
        refusedAtItsNumber();
        takenAtItsNumber();
        laterStages();
        decidedAtEachStage();
        aStageCountsWholly();
        whatStaysInTheLot();
        lowestTerms();
        greatestNumbers();
        thePartAtHandStays();
        roundedToTheNearest();
        roundedPlaces();
        comparing();
        crossings();
        crossingsAtTheEnds();
        CHECK.finish("PartEdgeTest");
    }

    /** The three parts of a plan with these STAGES. */
    private static void parts(int[] stages, int n, int d, String taken, String average, String outgoing) {
        SamplingDesk desk = new SamplingDesk();
        int plan = Check.planOf(desk, stages);
        String[] want = {taken, average, outgoing};
        for (int what = 0; what <= 2; what++) {
            CHECK.due("part, n " + n + ", d " + d + ", what " + what, desk.part(plan, n, d, what), 1);
            CHECK.due("it is, n " + n + ", d " + d + ", what " + what, Check.partOf(desk), want[what]);
        }
    }

    private static int[] stages(int... numbers) {
        return numbers;
    }

    private static void lotsOfNoneAndOfAllDefective() {
        CHECK.says("A lot of N items (1 to 60), D of them defective");
        for (int n = 1; n <= 60; n++) {
            parts(stages(1, 0, 1), n, 0, "1/1", "1/1", "0/1");
            parts(stages(1, 0, 1), n, n, "0/1", "1/1", "0/1");
        }
        parts(stages(1, 0, 1), 60, 1, "59/60", "1/1", "59/3600");
        parts(stages(1, 0, 1), 60, 59, "1/60", "1/1", "59/3600");
    }

    private static void sizesAsTheLot() {
        CHECK.says("With a CLOSED plan whose SIZES together are N at most");
        parts(stages(1, 0, 1), 1, 0, "1/1", "1/1", "0/1");
        parts(stages(60, 0, 1), 60, 0, "1/1", "60/1", "0/1");
        parts(stages(60, 59, 60), 60, 59, "1/1", "60/1", "0/1");
        parts(stages(60, 59, 60), 60, 60, "0/1", "60/1", "0/1");
        parts(stages(2, -1, 61, 2, 1, 2), 4, 1, "1/1", "4/1", "0/1");
        parts(stages(15, -1, 61, 15, -1, 61, 15, -1, 61, 15, 60, 61), 60, 60, "1/1", "60/1", "0/1");
    }

    private static void refusedAtItsNumber() {
        CHECK.says("when DEFECTS are the REFUSE of the STAGE at hand or more, the lot is REFUSED");
        parts(stages(3, 2, 3), 3, 3, "0/1", "3/1", "0/1");
        parts(stages(3, 2, 3), 3, 2, "1/1", "3/1", "0/1");
        parts(stages(3, 2, 3), 4, 4, "0/1", "3/1", "0/1");
        parts(stages(1, -1, 0), 1, 0, "0/1", "1/1", "0/1");
        // Two defective items are the first REFUSE, so that the second STAGE is never at hand.
        parts(stages(2, 0, 2, 2, 60, 61), 4, 4, "0/1", "2/1", "0/1");
        parts(stages(2, 0, 3, 2, 60, 61), 4, 4, "1/1", "4/1", "0/1");
    }

    private static void takenAtItsNumber() {
        CHECK.says("when DEFECTS are its ACCEPT or less, it is TAKEN; else the next STAGE is at hand");
        parts(stages(2, 2, 4, 2, -1, 0), 4, 4, "1/1", "2/1", "1/2");
        parts(stages(2, 1, 4, 2, -1, 0), 4, 4, "0/1", "4/1", "0/1");
        parts(stages(2, 0, 4, 2, -1, 0), 4, 0, "1/1", "2/1", "0/1");
        parts(stages(2, -1, 4, 2, -1, 0), 4, 0, "0/1", "4/1", "0/1");
    }

    private static void laterStages() {
        CHECK.says("DEFECTS being how many of all items so far are defective");
        parts(stages(2, 0, 3, 1, 2, 3), 3, 3, "0/1", "3/1", "0/1");
        parts(stages(2, 0, 3, 1, 3, 4), 3, 3, "1/1", "3/1", "0/1");
        // The second STAGE refuses what the first one let go on.
        parts(stages(2, 0, 3, 1, 0, 1), 3, 3, "0/1", "3/1", "0/1");
        parts(stages(2, 0, 3, 1, 0, 1), 3, 1, "1/3", "8/3", "1/9");
    }

    /** All items are defective, so that DEFECTS are as many as items; each STAGE is 2 long. */
    private static void decidedAtEachStage() {
        CHECK.says("up to the one at which it is decided");
        for (int at = 0; at < 4; at++) {
            int[] taken = new int[12];
            int[] refused = new int[12];
            for (int k = 0; k < 4; k++) {
                int[] goesOn = {2, -1, 61};
                System.arraycopy(k == 3 ? stages(2, 60, 61) : goesOn, 0, refused, 3 * k, 3);
                System.arraycopy(k == 3 ? stages(2, -1, 0) : goesOn, 0, taken, 3 * k, 3);
            }
            int end = 2 * at + 2;
            taken[3 * at + 1] = end;
            taken[3 * at + 2] = at == 3 ? end + 1 : end + 2;
            refused[3 * at + 1] = at == 3 ? end - 1 : end - 2;
            refused[3 * at + 2] = end;
            parts(taken, 10, 10, "1/1", end + "/1", new String[] {"4/5", "3/5", "2/5", "1/5"}[at]);
            parts(refused, 10, 10, "0/1", end + "/1", "0/1");
        }
    }

    private static void aStageCountsWholly() {
        CHECK.says("a STAGE counts wholly, also when the lot is REFUSED ahead of its end");
        parts(stages(60, -1, 0), 60, 0, "0/1", "60/1", "0/1");
        parts(stages(60, 0, 1), 60, 60, "0/1", "60/1", "0/1");
        parts(stages(1, -1, 61, 59, 0, 1), 60, 60, "0/1", "60/1", "0/1");
        parts(stages(30, 0, 1), 31, 31, "0/1", "30/1", "0/1");
    }

    private static void whatStaysInTheLot() {
        CHECK.says("of a REFUSED lot none (all are found), of one that is TAKEN those that were not seen");
        parts(stages(1, 1, 2), 1, 1, "1/1", "1/1", "0/1");
        parts(stages(1, 1, 2), 2, 2, "1/1", "1/1", "1/2");
        parts(stages(1, 0, 1), 2, 2, "0/1", "1/1", "0/1");
        parts(stages(1, 1, 2), 60, 60, "1/1", "1/1", "59/60");
        parts(stages(1, 0, 1), 2, 1, "1/2", "1/1", "1/4");
        parts(stages(1, 0, 2, 1, 1, 2), 2, 1, "1/1", "3/2", "1/4");
    }

    private static void lowestTerms() {
        CHECK.says("all parts (fractions) are in lowest terms, what is below the line above 0");
        parts(stages(3, 0, 1), 60, 58, "0/1", "3/1", "0/1");
        parts(stages(2, 0, 1), 60, 58, "1/1770", "2/1", "29/53100");
        parts(stages(30, 0, 1), 60, 2, "29/118", "30/1", "29/3540");
        parts(stages(60, 60, 61), 60, 30, "1/1", "60/1", "0/1");
    }

    /** There are 118264581564861424 ways to choose 30 of 60. */
    private static void greatestNumbers() {
        CHECK.says("as many orders as there are ways to choose D of N numbers");
        long orders = 118264581564861424L;
        parts(stages(30, 29, 30), 60, 30, (orders - 1) + "/" + orders, "30/1", "1/4");
        parts(stages(30, 0, 1), 60, 30, "1/" + orders, "30/1", "1/" + 2 * orders);
        SamplingDesk desk = new SamplingDesk();
        int plan = Check.planOf(desk, 30, 0, 31, 30, 30, 31);
        desk.part(plan, 60, 30, 1);
        CHECK.due("60 but for one order of 30", Check.partOf(desk), (2 * orders - 1) * 15 + "/" + orders / 2);
        CHECK.due("to 6 places", desk.rounded(6), 60000000);
        desk.part(plan, 60, 30, 0);
        CHECK.due("all are taken", Check.partOf(desk), "1/1");
    }

    private static void thePartAtHandStays() {
        CHECK.says("The part at hand becomes a plan's PART TAKEN (what 0), AVERAGE (1) or OUTGOING (2)");
        SamplingDesk desk = new SamplingDesk();
        Check.planOf(desk, 1, 0, 1);
        Check.planOf(desk, 2, 0, 1);
        desk.part(0, 3, 1, 0);
        CHECK.due("compare", desk.compare(0, 1, 5, 2), 1);
        CHECK.due("crossing", desk.crossing(0, 1, 5, 0), -1);
        CHECK.due("rounded", desk.rounded(6), 666667);
        desk.risk(0, 1, 1, 2);
        CHECK.due("search", desk.search(10), 100);
        CHECK.due("a plan more", Check.planOf(desk, 3, 0, 1), 2);
        CHECK.due("as it was", Check.partOf(desk), "2/3");
        CHECK.due("no such what", desk.part(0, 3, 2, 3), -2);
        CHECK.due("as it was", Check.partOf(desk), "2/3");
        CHECK.due("of 0", desk.part(1, 3, 2, 0), 1);
        CHECK.due("0 again", Check.partOf(desk), "0/1");
    }

    /** An AVERAGE of (1, 0, 2), (1, 0, 1) is 1 and the part in which the first item is defective. */
    private static void roundedToTheNearest() {
        CHECK.says("to the nearest whole number, of two the even one");
        int[] two = {1, 0, 2, 1, 0, 1};
        int[] three = {2, -1, 61, 1, 0, 1};
        rounds(two, 2, 0, 1, "1/1", 0, 1);
        rounds(two, 5, 2, 1, "7/5", 0, 1);
        rounds(two, 60, 29, 1, "89/60", 0, 1);
        rounds(two, 60, 30, 1, "3/2", 0, 2);
        rounds(two, 60, 31, 1, "91/60", 0, 2);
        rounds(three, 3, 0, 1, "3/1", 0, 3);
        int[] third = {2, 0, 3, 1, 0, 1};
        rounds(third, 4, 1, 1, "5/2", 0, 2);
        rounds(third, 60, 17, 1, "1469/590", 0, 2);
        rounds(third, 60, 18, 1, "1483/590", 0, 3);
        rounds(stages(1, 0, 1), 60, 29, 0, "31/60", 0, 1);
        rounds(stages(1, 0, 1), 60, 30, 0, "1/2", 0, 0);
        rounds(stages(1, 0, 1), 60, 31, 0, "29/60", 0, 0);
        rounds(stages(1, 0, 1), 3, 2, 0, "1/3", 1, 3);
        rounds(stages(1, 0, 1), 3, 2, 0, "1/3", 6, 333333);
        rounds(stages(1, 0, 1), 20, 17, 0, "3/20", 1, 2);
        rounds(stages(1, 0, 1), 20, 15, 0, "1/4", 1, 2);
        rounds(stages(1, 0, 1), 20, 13, 0, "7/20", 1, 4);
        rounds(stages(1, 0, 1), 50, 41, 0, "9/50", 1, 2);
        rounds(stages(1, 0, 1), 50, 43, 0, "7/50", 1, 1);
        rounds(stages(1, 0, 1), 40, 39, 0, "1/40", 2, 2);
        rounds(stages(1, 0, 1), 40, 37, 0, "3/40", 2, 8);
    }

    private static void rounds(int[] stages, int n, int d, int what, String part, int places, long want) {
        SamplingDesk desk = new SamplingDesk();
        desk.part(Check.planOf(desk, stages), n, d, what);
        CHECK.due("part to round, n " + n + ", d " + d, Check.partOf(desk), part);
        CHECK.due(part + " to " + places + " places", desk.rounded(places), want);
    }

    private static void roundedPlaces() {
        CHECK.says("times 10 to the places (0 to 6)");
        SamplingDesk desk = new SamplingDesk();
        int all = Check.planOf(desk, 60, 60, 61);
        int one = Check.planOf(desk, 1, 0, 1);
        long tenfold = 1;
        for (int places = 0; places <= 6; places++) {
            desk.part(all, 60, 7, 1);
            CHECK.due("60 to " + places, desk.rounded(places), 60 * tenfold);
            desk.part(one, 60, 0, 0);
            CHECK.due("1 to " + places, desk.rounded(places), tenfold);
            desk.part(one, 60, 60, 0);
            CHECK.due("0 to " + places, desk.rounded(places), 0);
            tenfold *= 10;
        }
        CHECK.due("places -1", desk.rounded(-1), -2);
        CHECK.due("places 7", desk.rounded(7), -2);
    }

    private static void comparing() {
        CHECK.says("1 if plan a has a greater PART TAKEN than plan b, 0 if the same, -1 if a lesser one");
        SamplingDesk desk = new SamplingDesk();
        int some = Check.planOf(desk, 30, 29, 30);
        int all = Check.planOf(desk, 30, 30, 31);
        int none = Check.planOf(desk, 60, -1, 0);
        int[][] want = {{29, 0}, {30, -1}, {31, -1}, {59, -1}, {60, -1}, {0, 0}};
        for (int[] w : want) {
            CHECK.due("some and all, d " + w[0], desk.compare(some, all, 60, w[0]), w[1]);
            CHECK.due("all and some, d " + w[0], desk.compare(all, some, 60, w[0]), -w[1]);
        }
        CHECK.due("in the least lot of some", desk.compare(some, all, 30, 30), -1);
        CHECK.due("one item less", desk.compare(some, all, 29, 29), -2);
        CHECK.due("none and all", desk.compare(none, all, 60, 0), -1);
        CHECK.due("all and none", desk.compare(all, none, 60, 60), 1);
        CHECK.due("n between the SIZES, a fits", desk.compare(all, none, 59, 1), -2);
        CHECK.due("n between the SIZES, b fits", desk.compare(none, all, 59, 1), -2);
        CHECK.due("some and none, all defective", desk.compare(some, none, 60, 60), 0);
    }

    /** In a lot of 7 compare() of a and b is 0, 0, 1, -1, 1, 0, 0, 0. */
    private static void crossings() {
        CHECK.says("the k-th (from 0 on); -1 when there is none such");
        SamplingDesk desk = new SamplingDesk();
        int a = Check.planOf(desk, 3, 0, 3, 4, 2, 3);
        int b = Check.planOf(desk, 5, 1, 2);
        int[] due = {2, 3, -1, -1};
        for (int k = 0; k < 4; k++) {
            CHECK.due("crossing of a and b, " + k, desk.crossing(a, b, 7, k), due[k]);
            CHECK.due("crossing of b and a, " + k, desk.crossing(b, a, 7, k), due[k]);
        }
        CHECK.due("the greatest k", desk.crossing(a, b, 7, MOST), -1);
        CHECK.due("k -1", desk.crossing(a, b, 7, -1), -2);
        CHECK.due("n as the SIZES of a", desk.crossing(a, b, 7, 0), 2);
        CHECK.due("one item less", desk.crossing(a, b, 6, 0), -2);
        CHECK.due("one item less, the other way round", desk.crossing(b, a, 6, 0), -2);
        CHECK.due("n 60", desk.crossing(a, b, 60, MOST), -1);
        CHECK.due("n 61", desk.crossing(a, b, 61, 0), -2);
    }

    /** More defective items never make a PART TAKEN greater, so none is at d 0 or at n - 1. */
    private static void crossingsAtTheEnds() {
        CHECK.says("Of the d from 0 to n - 1");
        SamplingDesk desk = new SamplingDesk();
        int a = Check.planOf(desk, 1, 0, 1);
        int b = Check.planOf(desk, 3, 1, 2);
        int none = Check.planOf(desk, 1, -1, 0);
        int all = Check.planOf(desk, 1, 1, 2);
        CHECK.due("in a lot of 1", desk.crossing(a, a, 1, 0), -1);
        CHECK.due("none and all", desk.crossing(none, all, 1, 0), -1);
        CHECK.due("all and none in 60", desk.crossing(all, none, 60, 0), -1);
        CHECK.due("the least lot with one", desk.crossing(a, b, 5, 0), 2);
        CHECK.due("a tie between in 4", desk.crossing(a, b, 4, 0), -1);
        CHECK.due("in 59", desk.crossing(a, b, 59, 0), 29);
        CHECK.due("in 59, no second", desk.crossing(a, b, 59, 1), -1);
        CHECK.due("a tie between in 60", desk.crossing(a, b, 60, 0), -1);
    }
}
