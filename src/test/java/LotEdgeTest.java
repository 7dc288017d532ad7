/** Terms 1 and 4 and promises 17 to 21, sentence by sentence: items, and what they make of a lot. */
public final class LotEdgeTest {
    private static final Check CHECK = new Check();
    private static final int GOOD = 0;
    private static final int MINOR = 1;
    private static final int MAJOR = 2;
    private static final int CRITICAL = 3;

    public static void main(String[] args) {
        refusedAtItsNumber();
        refusedByALaterStage();
        takenAtItsNumber();
        takenAtEndsAlone();
        decidedInEachStage();
        threeMinors();
        manyMinors();
        aCriticalItem();
        classes();
        sixtyItems();
        takingBack();
        takingBackOverAnEnd();
        correctingFirstAndLast();
        correctingWithoutDeciding();
        itemsBehindADecision();
        aboutADecidedLot();
        aboutANewLot();
        neededWhenDecided();
        neededAtEdges();
        neededOverStages();
        CHECK.finish("LotEdgeTest");
    }

    /** Lot 0 of 60 items, seen by a plan with these STAGES. */
    private static SamplingDesk lotBy(int... stages) {
        SamplingDesk desk = new SamplingDesk();
        int plan = Check.planOf(desk, stages);
        desk.supplier(plan, plan, plan);
        CHECK.due("the lot", desk.lot(0, 60), 0);
        return desk;
    }

    private static void stands(SamplingDesk desk, int state, int seen, int defects, int stage) {
        CHECK.due("what it is", desk.about(0, 0), state);
        CHECK.due("items seen", desk.about(0, 1), seen);
        CHECK.due("DEFECTS", desk.about(0, 2), defects);
        CHECK.due("STAGE", desk.about(0, 3), stage);
    }

    private static void refusedAtItsNumber() {
        CHECK.says("when DEFECTS are the REFUSE of the STAGE at hand or more, the lot is REFUSED");
        SamplingDesk desk = lotBy(4, 1, 3, 4, 5, 6);
        CHECK.due("one below", Check.see(desk, 0, MAJOR, MAJOR), 0);
        CHECK.due("just as many", desk.item(0, MAJOR), 2);
        stands(desk, 2, 3, 3, 0);
        SamplingDesk end = lotBy(4, 1, 3, 4, 5, 6);
        CHECK.due("just as many at the end", Check.see(end, 0, MAJOR, GOOD, MAJOR, MAJOR), 2);
        stands(end, 2, 4, 3, 0);
        SamplingDesk none = lotBy(60, -1, 0);
        CHECK.due("0 of 0", none.item(0, GOOD), 2);
        stands(none, 2, 1, 0, 0);
        SamplingDesk most = lotBy(60, 58, 59);
        CHECK.due("58 of 59", Check.seeMany(most, 0, 58, MAJOR), 0);
        CHECK.due("59 of 59", most.item(0, MAJOR), 2);
        stands(most, 2, 59, 59, 0);
    }

    private static void refusedByALaterStage() {
        CHECK.says("Behind each item");
        SamplingDesk more = lotBy(2, 0, 4, 2, 0, 1);
        CHECK.due("two go on", Check.see(more, 0, MAJOR, MAJOR), 0);
        stands(more, 0, 2, 2, 1);
        CHECK.due("more than its REFUSE", more.item(0, GOOD), 2);
        stands(more, 2, 3, 2, 1);
        SamplingDesk same = lotBy(2, 0, 4, 2, 1, 2);
        CHECK.due("two go on", Check.see(same, 0, MAJOR, MAJOR), 0);
        CHECK.due("just its REFUSE", same.item(0, GOOD), 2);
        SamplingDesk less = lotBy(2, 0, 4, 2, 2, 3);
        CHECK.due("two go on", Check.see(less, 0, MAJOR, MAJOR), 0);
        CHECK.due("one below its REFUSE", less.item(0, GOOD), 0);
        CHECK.due("its end", less.item(0, GOOD), 1);
    }

    private static void takenAtItsNumber() {
        CHECK.says("when DEFECTS are its ACCEPT or less, it is TAKEN; else the next STAGE is at hand");
        SamplingDesk less = lotBy(3, 1, 3, 2, 2, 3);
        CHECK.due("less", Check.see(less, 0, GOOD, GOOD, GOOD), 1);
        stands(less, 1, 3, 0, 0);
        SamplingDesk same = lotBy(3, 1, 3, 2, 2, 3);
        CHECK.due("just as many", Check.see(same, 0, GOOD, MAJOR, GOOD), 1);
        stands(same, 1, 3, 1, 0);
        SamplingDesk more = lotBy(3, 1, 3, 2, 2, 3);
        CHECK.due("one more", Check.see(more, 0, GOOD, MAJOR, MAJOR), 0);
        stands(more, 0, 3, 2, 1);
        CHECK.due("just as many at the last end", Check.see(more, 0, GOOD, GOOD), 1);
        SamplingDesk never = lotBy(1, -1, 61, 1, -1, 61, 1, -1, 61, 1, 0, 1);
        CHECK.due("ACCEPT -1 takes none", Check.see(never, 0, GOOD, GOOD, GOOD), 0);
        stands(never, 0, 3, 0, 3);
        CHECK.due("the last one takes it", never.item(0, GOOD), 1);
        SamplingDesk all = lotBy(60, 60, 61);
        CHECK.due("59 majors", Check.seeMany(all, 0, 59, MAJOR), 0);
        CHECK.due("60 majors", all.item(0, MAJOR), 1);
        stands(all, 1, 60, 60, 0);
    }

    private static void takenAtEndsAlone() {
        CHECK.says("A lot can be REFUSED ahead of a STAGE's end, it is TAKEN at ends alone.");
        SamplingDesk desk = lotBy(5, 4, 6, 5, 4, 5);
        for (int i = 0; i < 4; i++) {
            CHECK.due("ahead of the end", desk.item(0, GOOD), 0);
            stands(desk, 0, i + 1, 0, 0);
        }
        CHECK.due("the end", desk.item(0, GOOD), 1);
        SamplingDesk second = lotBy(1, -1, 2, 5, 4, 5);
        for (int i = 0; i < 5; i++) {
            CHECK.due("ahead of the second end", second.item(0, GOOD), 0);
            stands(second, 0, i + 1, 0, 1);
        }
        CHECK.due("the second end", second.item(0, GOOD), 1);
        SamplingDesk least = lotBy(1, 0, 1);
        CHECK.due("a SIZE of 1", least.item(0, GOOD), 1);
    }

    /** Four STAGES of 2; ACCEPT is 0, 1, 2, 5, REFUSE 3, 4, 5, 6. */
    private static void decidedInEachStage() {
        CHECK.says("3 its STAGE at hand (when it is decided: at which it was)");
        int[] plan = {2, 0, 3, 2, 1, 4, 2, 2, 5, 2, 5, 6};
        int[][] taken = {{0, 0}, {2, 0, 0, 0}, {2, 0, 2, 0, 0, 0}, {2, 0, 2, 0, 2, 0, 2, 0}};
        int[][] refused = {{3}, {2, 2, 2, 2}, {2, 2, 2, 0, 2, 2}, {2, 2, 2, 0, 2, 0, 2, 2}};
        int[] defectsTaken = {0, 1, 2, 4};
        int[] defectsRefused = {1, 4, 5, 6};
        for (int k = 0; k < 4; k++) {
            SamplingDesk desk = lotBy(plan);
            CHECK.due("TAKEN in STAGE " + k, Check.see(desk, 0, taken[k]), 1);
            stands(desk, 1, 2 * k + 2, defectsTaken[k], k);
            SamplingDesk other = lotBy(plan);
            CHECK.due("REFUSED in STAGE " + k, Check.see(other, 0, refused[k]), 2);
            stands(other, 2, refused[k].length, defectsRefused[k], k);
        }
    }

    private static void threeMinors() {
        CHECK.says("DEFECTS of a lot are its majors and criticals, and one for each three minors.");
        int[] want = {0, 0, 1, 1, 1, 2, 2, 2, 3};
        SamplingDesk desk = lotBy(60, 60, 61);
        for (int i = 0; i < want.length; i++) {
            desk.item(0, MINOR);
            stands(desk, 0, i + 1, want[i], 0);
        }
        desk.item(0, MAJOR);
        stands(desk, 0, 10, 4, 0);
        desk.item(0, GOOD);
        stands(desk, 0, 11, 4, 0);
        desk.item(0, CRITICAL);
        stands(desk, 2, 12, 5, 0);
        SamplingDesk apart = lotBy(60, 0, 1);
        CHECK.due("two of them", Check.see(apart, 0, MINOR, GOOD, GOOD, MINOR, GOOD), 0);
        CHECK.due("the third", apart.item(0, MINOR), 2);
    }

    private static void manyMinors() {
        CHECK.says("one for each three minors");
        SamplingDesk refused = lotBy(60, 19, 20);
        CHECK.due("59 minors", Check.seeMany(refused, 0, 59, MINOR), 0);
        stands(refused, 0, 59, 19, 0);
        CHECK.due("60 minors", refused.item(0, MINOR), 2);
        stands(refused, 2, 60, 20, 0);
        SamplingDesk taken = lotBy(60, 19, 20);
        Check.seeMany(taken, 0, 59, MINOR);
        CHECK.due("59 minors and a good one", taken.item(0, GOOD), 1);
        stands(taken, 1, 60, 19, 0);
    }

    private static void aCriticalItem() {
        CHECK.says("A critical item decides at once: the lot is REFUSED, whatever else is so.");
        SamplingDesk first = lotBy(60, 60, 61);
        CHECK.due("the first item", first.item(0, CRITICAL), 2);
        stands(first, 2, 1, 1, 0);
        SamplingDesk last = lotBy(60, 60, 61);
        Check.seeMany(last, 0, 59, GOOD);
        CHECK.due("the last item", last.item(0, CRITICAL), 2);
        stands(last, 2, 60, 1, 0);
        SamplingDesk goesOn = lotBy(2, -1, 61, 2, 60, 61);
        CHECK.due("at an end that would go on", Check.see(goesOn, 0, GOOD, CRITICAL), 2);
        stands(goesOn, 2, 2, 1, 0);
        SamplingDesk later = lotBy(2, -1, 61, 2, 60, 61);
        CHECK.due("behind that end", Check.see(later, 0, GOOD, GOOD, CRITICAL), 2);
        stands(later, 2, 3, 1, 1);
    }

    private static void classes() {
        CHECK.says("Items are of a CLASS: 0 good, 1 minor, 2 major, 3 critical.");
        int[] state = {0, 0, 0, 2};
        int[] defects = {0, 0, 1, 1};
        for (int which = 0; which <= 3; which++) {
            SamplingDesk desk = lotBy(5, 4, 5);
            CHECK.due("CLASS " + which, desk.item(0, which), state[which]);
            stands(desk, state[which], 1, defects[which], 0);
        }
        SamplingDesk desk = lotBy(5, 4, 5);
        CHECK.due("CLASS -1", desk.item(0, -1), -2);
        CHECK.due("CLASS 4", desk.item(0, 4), -2);
        stands(desk, 0, 0, 0, 0);
    }

    private static void sixtyItems() {
        CHECK.says("all SIZES together are 60 at most");
        SamplingDesk desk = lotBy(20, -1, 61, 20, -1, 61, 20, 59, 60);
        for (int i = 0; i < 59; i++) {
            CHECK.due("item " + i, desk.item(0, i % 3), 0);
        }
        stands(desk, 0, 59, 25, 2);
        CHECK.due("one is needed", desk.needed(0), 1);
        CHECK.due("there is no item 59", desk.correct(0, 59, MAJOR), -2);
        CHECK.due("the last one is item 58", desk.correct(0, 58, MAJOR), 0);
        stands(desk, 0, 59, 26, 2);
        CHECK.due("taken back", desk.undo(0), 58);
        stands(desk, 0, 58, 25, 2);
        CHECK.due("seen again", desk.item(0, MINOR), 0);
        CHECK.due("the 60th", desk.item(0, GOOD), 1);
        stands(desk, 1, 60, 25, 2);
        CHECK.due("a 61st", desk.item(0, GOOD), -2);
        CHECK.due("not taken back", desk.undo(0), -2);
        CHECK.due("not corrected", desk.correct(0, 59, MAJOR), -2);
        stands(desk, 1, 60, 25, 2);
        CHECK.due("all are counted", desk.score(0, 3), 60);
    }

    private static void takingBack() {
        CHECK.says("The latest item of a lot is taken back: how many were seen.");
        SamplingDesk desk = lotBy(60, 60, 61);
        CHECK.due("none was seen", desk.undo(0), -2);
        Check.see(desk, 0, MINOR, MINOR, MINOR, MAJOR);
        stands(desk, 0, 4, 2, 0);
        int[] defects = {0, 0, 0, 1};
        for (int left = 3; left >= 0; left--) {
            CHECK.due("undo", desk.undo(0), left);
            stands(desk, 0, left, defects[left], 0);
            CHECK.due("items seen", desk.score(0, 3), left);
            CHECK.due("items that are not good", desk.score(0, 4), left);
        }
        CHECK.due("none is left", desk.undo(0), -2);
        stands(desk, 0, 0, 0, 0);
        CHECK.due("no item 0", desk.correct(0, 0, GOOD), -2);
        CHECK.due("another one", desk.item(0, MAJOR), 0);
        stands(desk, 0, 1, 1, 0);
    }

    private static void takingBackOverAnEnd() {
        CHECK.says("The latest item of a lot is taken back");
        SamplingDesk desk = lotBy(1, -1, 61, 1, -1, 61, 1, -1, 61, 1, 60, 61);
        Check.see(desk, 0, MAJOR, MAJOR, MAJOR);
        for (int left = 2; left >= 0; left--) {
            stands(desk, 0, left + 1, left + 1, left + 1);
            CHECK.due("undo", desk.undo(0), left);
        }
        stands(desk, 0, 0, 0, 0);
        SamplingDesk other = lotBy(2, 0, 2, 2, 1, 2);
        Check.see(other, 0, MAJOR, GOOD);
        other.undo(0);
        CHECK.due("the first STAGE is at hand again", other.item(0, MAJOR), 2);
        stands(other, 2, 2, 2, 0);
    }

    private static void correctingFirstAndLast() {
        CHECK.says("Item i, from 0 on, of a lot becomes one of another CLASS");
        SamplingDesk desk = lotBy(60, 60, 61);
        CHECK.due("none is seen", desk.correct(0, 0, GOOD), -2);
        Check.see(desk, 0, GOOD, GOOD, GOOD);
        int[][] wrong = {{-1, 0}, {3, 0}, {4, 0}, {60, 0}, {Integer.MAX_VALUE, 0}, {Integer.MIN_VALUE, 0},
            {0, -1}, {0, 4}, {2, -1}, {2, 4}};
        for (int[] w : wrong) {
            CHECK.due("item " + w[0] + ", CLASS " + w[1], desk.correct(0, w[0], w[1]), -2);
        }
        stands(desk, 0, 3, 0, 0);
        CHECK.due("the first one", desk.correct(0, 0, MAJOR), 0);
        stands(desk, 0, 3, 1, 0);
        CHECK.due("the last one", desk.correct(0, 2, MAJOR), 0);
        stands(desk, 0, 3, 2, 0);
        CHECK.due("undo the last one", desk.undo(0), 2);
        stands(desk, 0, 2, 1, 0);
        CHECK.due("to the CLASS that it has", desk.correct(0, 0, MAJOR), 0);
        stands(desk, 0, 2, 1, 0);
        CHECK.due("back to good", desk.correct(0, 0, GOOD), 0);
        stands(desk, 0, 2, 0, 0);
    }

    private static void correctingWithoutDeciding() {
        CHECK.says("what the lot is then, as if its items had come so");
        SamplingDesk desk = lotBy(3, 0, 3, 3, 5, 6);
        Check.see(desk, 0, MAJOR, GOOD, GOOD, MINOR, MINOR);
        stands(desk, 0, 5, 1, 1);
        CHECK.due("two go on as one did", desk.correct(0, 1, MAJOR), 0);
        stands(desk, 0, 5, 2, 1);
        CHECK.due("a third minor", desk.correct(0, 0, MINOR), 0);
        stands(desk, 0, 5, 2, 1);
        CHECK.due("needed as if they had come so", desk.needed(0), 1);
        CHECK.due("the last end", desk.item(0, GOOD), 1);
        stands(desk, 1, 6, 2, 1);
    }

    private static void itemsBehindADecision() {
        CHECK.says("if it is decided by an item, those behind that were never seen");
        SamplingDesk itself = lotBy(9, 8, 9);
        Check.see(itself, 0, MAJOR, GOOD, MINOR, MAJOR);
        CHECK.due("by the item itself", itself.correct(0, 1, CRITICAL), 2);
        stands(itself, 2, 2, 2, 0);
        CHECK.due("items seen", itself.score(0, 3), 2);
        CHECK.due("not good", itself.score(0, 4), 2);
        SamplingDesk later = lotBy(9, 0, 2, 9, 8, 9);
        Check.see(later, 0, GOOD, MAJOR, MINOR, GOOD, MINOR, GOOD, GOOD);
        CHECK.due("by a later minor", later.correct(0, 0, MINOR), 2);
        stands(later, 2, 5, 2, 0);
        SamplingDesk last = lotBy(9, 8, 9);
        Check.see(last, 0, GOOD, GOOD, GOOD);
        CHECK.due("by the last item, none is behind", last.correct(0, 2, CRITICAL), 2);
        stands(last, 2, 3, 1, 0);
        SamplingDesk taken = lotBy(2, 0, 3, 5, 6, 7);
        Check.see(taken, 0, MAJOR, GOOD, MAJOR, MAJOR, MAJOR, MAJOR);
        stands(taken, 0, 6, 5, 1);
        CHECK.due("by the first end", taken.correct(0, 0, GOOD), 1);
        stands(taken, 1, 2, 0, 0);
        CHECK.due("items seen", taken.score(0, 3), 2);
        CHECK.due("not good", taken.score(0, 4), 0);
        CHECK.due("decided", taken.correct(0, 0, MAJOR), -2);
        SamplingDesk end = lotBy(2, 0, 3, 2, 0, 2, 5, 6, 7);
        Check.see(end, 0, MAJOR, GOOD, GOOD, GOOD, MAJOR);
        CHECK.due("by the first item of a later STAGE", end.correct(0, 1, MAJOR), 2);
        stands(end, 2, 3, 2, 1);
    }

    private static void aboutADecidedLot() {
        CHECK.says("0 what it is (0, 1, 2), 1 its items seen, 2 its DEFECTS");
        SamplingDesk desk = lotBy(2, 0, 2, 2, 1, 2);
        Check.see(desk, 0, MAJOR, MAJOR);
        CHECK.due("refused calls behind it", desk.item(0, MAJOR), -2);
        int[] want = {2, 2, 2, 0, 0, 60, 0};
        for (int what = 0; what <= 6; what++) {
            CHECK.due("about, " + what, desk.about(0, what), want[what]);
        }
        CHECK.due("about, -1", desk.about(0, -1), -2);
        CHECK.due("about, 7", desk.about(0, 7), -2);
    }

    private static void aboutANewLot() {
        CHECK.says("4 its plan, 5 its size, 6 the rule by which it came");
        SamplingDesk desk = new SamplingDesk();
        for (int i = 0; i < 24; i++) {
            desk.plan();
        }
        desk.stage(23, 1, 0, 1);
        desk.supplier(23, 23, 23);
        desk.lot(0, 1);
        desk.lot(0, 60);
        int[][] want = {{0, 0, 0, 0, 23, 1, 0}, {0, 0, 0, 0, 23, 60, 0}};
        for (int lot = 0; lot < 2; lot++) {
            for (int what = 0; what <= 6; what++) {
                CHECK.due("about lot " + lot + ", " + what, desk.about(lot, what), want[lot][what]);
            }
        }
    }

    private static void neededWhenDecided() {
        CHECK.says("0 when it is");
        SamplingDesk ahead = lotBy(5, 0, 1);
        ahead.item(0, MAJOR);
        CHECK.due("REFUSED ahead of the end", ahead.needed(0), 0);
        SamplingDesk critical = lotBy(5, 5, 6);
        critical.item(0, CRITICAL);
        CHECK.due("REFUSED by a critical item", critical.needed(0), 0);
        SamplingDesk early = lotBy(2, 0, 3, 5, 6, 7);
        Check.see(early, 0, GOOD, GOOD);
        CHECK.due("TAKEN ahead of the last STAGE", early.needed(0), 0);
        SamplingDesk end = lotBy(2, 0, 1);
        Check.see(end, 0, GOOD, GOOD);
        CHECK.due("TAKEN at the last end", end.needed(0), 0);
        SamplingDesk corrected = lotBy(5, 0, 1);
        Check.see(corrected, 0, GOOD, GOOD);
        corrected.correct(0, 0, MAJOR);
        CHECK.due("REFUSED by correcting", corrected.needed(0), 0);
    }

    private static void neededAtEdges() {
        CHECK.says("The least number of further items, of some CLASSES but critical, behind which a lot is decided");
        CHECK.due("REFUSE 0", lotBy(60, -1, 0).needed(0), 1);
        CHECK.due("REFUSE 1", lotBy(60, 0, 1).needed(0), 1);
        CHECK.due("REFUSE 2", lotBy(60, 1, 2).needed(0), 2);
        CHECK.due("REFUSE 59", lotBy(60, 58, 59).needed(0), 59);
        CHECK.due("REFUSE 60", lotBy(60, 59, 60).needed(0), 60);
        CHECK.due("REFUSE 61", lotBy(60, 60, 61).needed(0), 60);
        CHECK.due("SIZE 1", lotBy(1, 60, 61).needed(0), 1);
        SamplingDesk desk = lotBy(60, 1, 2);
        Check.see(desk, 0, MINOR, MINOR);
        CHECK.due("a third minor is no more than a major", desk.needed(0), 2);
        desk.item(0, MINOR);
        CHECK.due("one DEFECT is there", desk.needed(0), 1);
        desk.undo(0);
        CHECK.due("taken back", desk.needed(0), 2);
        stands(desk, 0, 2, 0, 0);
    }

    private static void neededOverStages() {
        CHECK.says("behind which a lot is decided");
        CHECK.due("the first end takes", lotBy(3, 0, 5, 9, 9, 10).needed(0), 3);
        CHECK.due("the second end takes", lotBy(3, -1, 9, 2, 0, 9, 9, 9, 10).needed(0), 5);
        CHECK.due("the second one refuses at its first item", lotBy(3, -1, 9, 2, 0, 3, 9, 9, 10).needed(0), 4);
        CHECK.due("none may be left to refuse", lotBy(3, -1, 9, 2, -1, 0).needed(0), 4);
        CHECK.due("all but the last end go on", lotBy(1, -1, 61, 1, -1, 61, 1, -1, 61, 57, 60, 61).needed(0), 60);
        SamplingDesk desk = lotBy(2, 0, 3, 3, 1, 5, 2, 6, 7);
        CHECK.due("two good ones", desk.needed(0), 2);
        desk.item(0, MAJOR);
        CHECK.due("the second end with one", desk.needed(0), 4);
        desk.item(0, MAJOR);
        stands(desk, 0, 2, 2, 1);
        CHECK.due("three majors", desk.needed(0), 3);
        desk.item(0, GOOD);
        CHECK.due("to the last end", desk.needed(0), 4);
    }
}
