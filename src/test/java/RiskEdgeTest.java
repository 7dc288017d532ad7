import java.util.function.Supplier;

/** Terms 3 and promises 11 to 14, sentence by sentence, up to the last value that is allowed. */
public final class RiskEdgeTest {
    private static final Check CHECK = new Check();
    private static final int MOST = Integer.MAX_VALUE;

    public static void main(String[] args) {
        lastRisksThatAreAllowed();
        toldAnewAlone();
        howManyWereTold();
        defectiveAboveTheLot();
        forgottenAboveTheLot();
        toldPartOrMore();
        toldPartOrLess();
        partsNotInLowestTerms();
        leastAndGreatestParts();
        bothMustHold();
        leastSizeThenLeastAccept();
        sizesUpToTheLot();
        noneHolds();
        minimalOnes();
        atMostOneIsMinimal();
        CHECK.finish("RiskEdgeTest");
    }

    /** A desk with RISKS; each is told as which, d, up, down. */
    private static SamplingDesk deskWith(int... risks) {
        SamplingDesk desk = new SamplingDesk();
        for (int i = 0; i < risks.length; i += 4) {
            CHECK.due("risk", desk.risk(risks[i], risks[i + 1], risks[i + 2], risks[i + 3]), 1);
        }
        return desk;
    }

    private static void lastRisksThatAreAllowed() {
        CHECK.says("RISK which (0, 1) is told: with d defective items, up by down: 1.");
        for (int which = 0; which <= 1; which++) {
            for (int d = 0; d <= 60; d += 60) {
                deskWith(which, d, 0, 1);
                deskWith(which, d, 1, 1);
                deskWith(which, d, 0, 1000);
                deskWith(which, d, 1000, 1000);
                CHECK.due("one is told", deskWith(which, d, 999, 1000).count(5), 1);
            }
        }
    }

    private static void toldAnewAlone() {
        CHECK.says("RISK which (0, 1) is told");
        SamplingDesk desk = deskWith(0, 2, 7, 15, 1, 2, 7, 15);
        CHECK.due("both", desk.search(10), 300);
        desk.risk(0, 0, 0, 1);
        CHECK.due("RISK 1 stays", desk.search(10), 300);
        desk.risk(1, 0, 1, 1);
        CHECK.due("RISK 1 is another", desk.search(10), 100);
        desk.risk(0, 10, 1, 1);
        CHECK.due("RISK 0 is another", desk.search(10), 101);
        CHECK.due("still two", desk.count(5), 2);
    }

    private static void howManyWereTold() {
        CHECK.says("RISKS are not told any more: how many were.");
        CHECK.due("none", deskWith().forget(), 0);
        CHECK.due("RISK 0", deskWith(0, 1, 1, 2).forget(), 1);
        CHECK.due("RISK 1", deskWith(1, 1, 1, 2).forget(), 1);
        CHECK.due("RISK 0 twice", deskWith(0, 1, 1, 2, 0, 2, 1, 2).forget(), 1);
        SamplingDesk desk = deskWith(0, 10, 1, 1, 1, 1, 1, 2);
        CHECK.due("both", desk.forget(), 2);
        CHECK.due("count", desk.count(5), 0);
        CHECK.due("again", desk.forget(), 0);
        CHECK.due("every plan HOLDS", desk.search(10), 100);
        desk.risk(1, 1, 1, 2);
        CHECK.due("the other one is not told again", desk.count(5), 1);
        CHECK.due("nor does it count", desk.search(10), 500);
    }

    private static void defectiveAboveTheLot() {
        CHECK.says("or a told RISK has a d above n");
        oneRiskAbove(() -> deskWith(0, 60, 0, 1), 60);
        oneRiskAbove(() -> deskWith(1, 60, 1, 1), 60);
        oneRiskAbove(() -> deskWith(0, 7, 0, 1), 7);
        oneRiskAbove(() -> deskWith(1, 7, 1, 1), 7);
        oneRiskAbove(() -> deskWith(0, 7, 0, 1, 1, 3, 1, 1), 7);
        oneRiskAbove(() -> deskWith(0, 3, 0, 1, 1, 7, 1, 1), 7);
        CHECK.due("d 1 in a lot of 1", deskWith(0, 1, 0, 1, 1, 1, 1, 1).search(1), 100);
        CHECK.due("d 2 in a lot of 1", deskWith(0, 2, 0, 1).search(1), -2);
        CHECK.due("d 0 in a lot of 1", deskWith(0, 0, 1, 1).search(1), 100);
    }

    /** Every plan HOLDS for these RISKS, the greatest d of which is told. */
    private static void oneRiskAbove(Supplier<SamplingDesk> maker, int d) {
        Edge desk = new Edge(CHECK, maker);
        desk.refused("search, n " + (d - 1), x -> x.search(d - 1));
        desk.refused("minimal, n " + (d - 1), x -> x.minimal(d - 1, 0));
        desk.due("search, n " + d, x -> x.search(d), 100);
        desk.due("minimal, n " + d, x -> x.minimal(d, 0), 100);
    }

    private static void forgottenAboveTheLot() {
        CHECK.says("RISKS are not told any more");
        SamplingDesk desk = deskWith(0, 60, 1, 1, 1, 60, 0, 1);
        CHECK.due("told", desk.search(59), -2);
        desk.forget();
        CHECK.due("not told any more, n 1", desk.search(1), 100);
        CHECK.due("not told any more, n 60", desk.search(60), 100);
        CHECK.due("none more is minimal", desk.minimal(60, 1), -1);
    }

    /** In a lot of 10 with 2 defective items (1, 0) takes 4/5, (1, 1) all. */
    private static void toldPartOrMore() {
        CHECK.says("with so many defective items the PART TAKEN must be a told part or more");
        CHECK.due("799/1000", deskWith(0, 2, 799, 1000).search(10), 100);
        CHECK.due("4/5", deskWith(0, 2, 4, 5).search(10), 100);
        CHECK.due("801/1000", deskWith(0, 2, 801, 1000).search(10), 101);
        CHECK.due("1/1", deskWith(0, 2, 1, 1).search(10), 101);
        CHECK.due("1/60 of 60 with 59", deskWith(0, 59, 1, 60).search(60), 100);
        CHECK.due("17/1000 of 60 with 59", deskWith(0, 59, 17, 1000).search(60), 101);
    }

    /** In a lot of 10 with 2 defective items (1, 0) takes 4/5, (2, 0) takes 28/45. */
    private static void toldPartOrLess() {
        CHECK.says("with so many it must be a told part or less");
        CHECK.due("801/1000", deskWith(1, 2, 801, 1000).search(10), 100);
        CHECK.due("4/5", deskWith(1, 2, 4, 5).search(10), 100);
        CHECK.due("799/1000", deskWith(1, 2, 799, 1000).search(10), 200);
        CHECK.due("28/45", deskWith(1, 2, 28, 45).search(10), 200);
        CHECK.due("622/1000", deskWith(1, 2, 622, 1000).search(10), 300);
        CHECK.due("1/60 of 60 with 59", deskWith(1, 59, 1, 60).search(60), 100);
        CHECK.due("16/1000 of 60 with 59", deskWith(1, 59, 16, 1000).search(60), 200);
    }

    /** A lot of 4 with 2 defective items has 6 orders, 3 of which begin with a good one. */
    private static void partsNotInLowestTerms() {
        CHECK.says("up by down");
        for (int down = 2; down <= 1000; down += 2) {
            SamplingDesk desk = deskWith(0, 2, down / 2, down);
            CHECK.due("half or more, by " + down, desk.search(4), 100);
            desk.risk(1, 2, down / 2, down);
            CHECK.due("just half, by " + down, desk.search(4), 100);
        }
        CHECK.due("501/1000 or more", deskWith(0, 2, 501, 1000).search(4), 101);
        CHECK.due("499/1000 or less", deskWith(1, 2, 499, 1000).search(4), 200);
        CHECK.due("just half of all orders of 60", deskWith(0, 30, 500, 1000, 1, 30, 500, 1000).search(60), 100);
        CHECK.due("more than half of them", deskWith(0, 30, 501, 1000).search(60), 101);
        CHECK.due("less than half of them", deskWith(1, 30, 499, 1000).search(60), 200);
    }

    private static void leastAndGreatestParts() {
        CHECK.says("down not 1..1000, up not 0..down");
        CHECK.due("0 or more", deskWith(0, 60, 0, 1000).search(60), 100);
        CHECK.due("1 or less", deskWith(1, 0, 1000, 1000).search(60), 100);
        CHECK.due("1 or more, none defective", deskWith(0, 0, 1000, 1000).search(60), 100);
        CHECK.due("1 or more, all defective", deskWith(0, 60, 1, 1).search(60), 101);
        CHECK.due("0 or less, none defective", deskWith(1, 0, 0, 1000).search(60), -1);
        CHECK.due("0 or less, all defective", deskWith(1, 60, 0, 1).search(60), 100);
        CHECK.due("1/1000 or more, 59 defective", deskWith(0, 59, 1, 1000).search(60), 100);
        CHECK.due("1/1000 or more, 60 defective", deskWith(0, 60, 1, 1000).search(60), 101);
    }

    private static void bothMustHold() {
        CHECK.says("HOLDS for N if for both RISKS that are told it is so");
        CHECK.due("none told", deskWith().search(20), 100);
        CHECK.due("RISK 0 alone", deskWith(0, 1, 9, 10).search(20), 100);
        CHECK.due("RISK 1 alone", deskWith(1, 5, 1, 10).search(20), 700);
        CHECK.due("both", deskWith(0, 1, 9, 10, 1, 5, 1, 10).search(20), 1101);
        CHECK.due("both, told the other way round", deskWith(1, 5, 1, 10, 0, 1, 9, 10).search(20), 1101);
    }

    private static void leastSizeThenLeastAccept() {
        CHECK.says("with the least n', of these with the least c: 100 n' and c");
        CHECK.due("c 0 and 1 HOLD", deskWith(0, 1, 1, 2).search(2), 100);
        CHECK.due("c 1 alone HOLDS", deskWith(0, 1, 51, 100).search(2), 101);
        // With 4 of 10 defective (1, 0) takes 3/5, (1, 1) all, (2, 0) a third, (2, 1) 13/15.
        CHECK.due("the least n'", deskWith(0, 4, 60, 100, 1, 4, 90, 100).search(10), 100);
        CHECK.due("a greater n' with a greater c", deskWith(0, 4, 61, 100, 1, 4, 90, 100).search(10), 201);
    }

    private static void sizesUpToTheLot() {
        CHECK.says("n from 1 to N, c from 0 to n");
        CHECK.due("(1, 0) of 1", deskWith(1, 1, 0, 1).search(1), 100);
        CHECK.due("(1, 1) of 1", deskWith(0, 1, 1, 1).search(1), 101);
        CHECK.due("(60, 0) of 60", deskWith(1, 1, 0, 1).search(60), 6000);
        CHECK.due("(59, 0) of 59", deskWith(1, 1, 0, 1).search(59), 5900);
        CHECK.due("(60, 58) of 60", deskWith(1, 59, 0, 1, 0, 58, 1, 1).search(60), 6058);
        CHECK.due("(60, 59) of 60", deskWith(1, 60, 0, 1, 0, 59, 1, 1).search(60), 6059);
        CHECK.due("(60, 59), minimal", deskWith(1, 60, 0, 1, 0, 59, 1, 1).minimal(60, 0), 6059);
        CHECK.due("(1, 0) of 60", deskWith(1, 60, 0, 1, 0, 59, 1, 60).search(60), 100);
    }

    private static void noneHolds() {
        CHECK.says("-1 when none does");
        for (int n = 1; n <= 60; n += 59) {
            CHECK.due("RISK 1 alone", deskWith(1, 0, 999, 1000).search(n), -1);
            CHECK.due("all and not all of the same", deskWith(0, 1, 1, 1, 1, 1, 999, 1000).search(n), -1);
            CHECK.due("minimal", deskWith(1, 0, 999, 1000).minimal(n, 0), -1);
        }
        CHECK.due("RISK 0 with the greater d", deskWith(0, 30, 1, 1, 1, 29, 0, 1).search(60), -1);
    }

    private static void minimalOnes() {
        CHECK.says("the k-th by rising n': 100 n' and c; -1 when there is none such");
        SamplingDesk desk = deskWith(0, 1, 9, 10, 1, 5, 1, 10);
        CHECK.due("k 0", desk.minimal(20, 0), 1101);
        CHECK.due("k 1", desk.minimal(20, 1), -1);
        CHECK.due("the greatest k", desk.minimal(20, MOST), -1);
        CHECK.due("k -1", desk.minimal(20, -1), -2);
        CHECK.due("none is told, k 0", deskWith().minimal(1, 0), 100);
        CHECK.due("none is told, k 1", deskWith().minimal(1, 1), -1);
    }

    /**
     * If (n1, c1) and a larger (n2, c2) with c2 below c1 both HOLD, so does (n1, c2), and neither is
     * minimal: there is never a second one.
     */
    private static void atMostOneIsMinimal() {
        CHECK.says("no other one that does has no greater n' and no greater c");
        for (int d = 0; d <= 12; d++) {
            for (int up = 0; up <= 20; up++) {
                SamplingDesk desk = deskWith(0, d / 3, 19, 20, 1, d, up, 20);
                CHECK.due("the first, d " + d + ", up " + up, desk.minimal(30, 0), desk.search(30));
                CHECK.due("no second, d " + d + ", up " + up, desk.minimal(30, 1), -1);
            }
        }
    }
}
