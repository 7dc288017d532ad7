/** Promises 16 to 21: lot, item, undo, correct, about, needed. */
public final class LotTest {
    private static final Check CHECK = new Check();
    private static final int GOOD = 0;
    private static final int MINOR = 1;
    private static final int MAJOR = 2;
    private static final int CRITICAL = 3;

    public static void main(String[] args) {
        lotsAreNumbered();
        lotSizes();
        takenAtEndsAlone();
        refusedAheadOfAnEnd();
        threeMinorsAreADefect();
        aCriticalDecides();
        laterStageRefusesAtItsFirstItem();
        neverAccepted();
        undoing();
        undoOverAStage();
        correcting();
        correctingDropsItems();
        aboutALot();
        needing();
        wrongInputs();
        CHECK.finish("LotTest");
    }

    private static SamplingDesk deskWith(int... stages) {
        SamplingDesk desk = new SamplingDesk();
        int plan = Check.planOf(desk, stages);
        desk.supplier(plan, plan, plan);
        return desk;
    }

    private static void about(SamplingDesk desk, int lot, int state, int seen, int defects, int stage) {
        CHECK.due("lot " + lot + " is", desk.about(lot, 0), state);
        CHECK.due("lot " + lot + " items", desk.about(lot, 1), seen);
        CHECK.due("lot " + lot + " defects", desk.about(lot, 2), defects);
        CHECK.due("lot " + lot + " stage", desk.about(lot, 3), stage);
    }

    private static void lotsAreNumbered() {
        SamplingDesk desk = deskWith(1, 0, 1);
        for (int i = 0; i < 60; i++) {
            CHECK.due("lot number " + i, desk.lot(0, 1), i);
        }
        CHECK.due("lot of 60", desk.lot(0, 1), -2);
        CHECK.due("count(3)", desk.count(3), 60);
        CHECK.due("the last one is seen", desk.item(59, GOOD), 1);
        CHECK.due("no 60th", desk.item(60, GOOD), -2);
    }

    private static void lotSizes() {
        SamplingDesk desk = deskWith(3, 0, 2, 2, 1, 2);
        CHECK.due("no such supplier", desk.lot(1, 10), -2);
        CHECK.due("supplier -1", desk.lot(-1, 10), -2);
        CHECK.due("size 0", desk.lot(0, 0), -2);
        CHECK.due("size -1", desk.lot(0, -1), -2);
        CHECK.due("size 61", desk.lot(0, 61), -2);
        CHECK.due("below the SIZES", desk.lot(0, 4), -2);
        CHECK.due("none came", desk.count(3), 0);
        CHECK.due("as the SIZES", desk.lot(0, 5), 0);
        CHECK.due("size 60", desk.lot(0, 60), 1);
    }

    private static void takenAtEndsAlone() {
        SamplingDesk desk = deskWith(3, 1, 3, 2, 2, 3);
        desk.lot(0, 10);
        CHECK.due("good", desk.item(0, GOOD), 0);
        CHECK.due("good", desk.item(0, GOOD), 0);
        CHECK.due("major at the end", desk.item(0, MAJOR), 1);
        about(desk, 0, 1, 3, 1, 0);
        CHECK.due("decided", desk.item(0, GOOD), -2);
        desk.lot(0, 10);
        CHECK.due("two of three", Check.see(desk, 1, MAJOR, MAJOR, GOOD), 0);
        about(desk, 1, 0, 3, 2, 1);
        CHECK.due("ahead of the second end", desk.item(1, GOOD), 0);
        CHECK.due("the second end", desk.item(1, GOOD), 1);
        about(desk, 1, 1, 5, 2, 1);
    }

    private static void refusedAheadOfAnEnd() {
        SamplingDesk desk = deskWith(5, 1, 3, 5, 3, 4);
        desk.lot(0, 10);
        CHECK.due("third major", Check.see(desk, 0, MAJOR, MAJOR, MAJOR), 2);
        about(desk, 0, 2, 3, 3, 0);
        desk.lot(0, 10);
        CHECK.due("two of five", Check.see(desk, 1, MAJOR, GOOD, GOOD, GOOD, MAJOR), 0);
        CHECK.due("third", desk.item(1, MAJOR), 0);
        CHECK.due("fourth", desk.item(1, MAJOR), 2);
        about(desk, 1, 2, 7, 4, 1);
    }

    private static void threeMinorsAreADefect() {
        SamplingDesk desk = deskWith(9, 0, 1);
        desk.lot(0, 10);
        CHECK.due("two minors", Check.see(desk, 0, MINOR, GOOD, MINOR), 0);
        about(desk, 0, 0, 3, 0, 0);
        CHECK.due("a third", desk.item(0, MINOR), 2);
        about(desk, 0, 2, 4, 1, 0);
        SamplingDesk other = deskWith(9, 1, 4, 9, 9, 10);
        other.lot(0, 20);
        CHECK.due("six and a major", Check.see(other, 0, 1, 1, 1, 1, 1, 1, 2), 0);
        CHECK.due("three DEFECTS", other.about(0, 2), 3);
        CHECK.due("eight and a major", Check.see(other, 0, 1, 1), 0);
        CHECK.due("still three", other.about(0, 2), 3);
        CHECK.due("the second STAGE", other.about(0, 3), 1);
    }

    private static void aCriticalDecides() {
        SamplingDesk desk = deskWith(2, 60, 61);
        desk.lot(0, 10);
        CHECK.due("critical first", desk.item(0, CRITICAL), 2);
        about(desk, 0, 2, 1, 1, 0);
        desk.lot(0, 10);
        CHECK.due("critical at an end that would take", Check.see(desk, 1, GOOD, CRITICAL), 2);
        about(desk, 1, 2, 2, 1, 0);
        SamplingDesk other = deskWith(2, 0, 9, 2, 9, 10);
        other.lot(0, 10);
        CHECK.due("critical in the second STAGE", Check.see(other, 0, MAJOR, MAJOR, CRITICAL), 2);
        about(other, 0, 2, 3, 3, 1);
    }

    private static void laterStageRefusesAtItsFirstItem() {
        SamplingDesk desk = deskWith(2, 0, 3, 2, 0, 1);
        desk.lot(0, 10);
        CHECK.due("goes on", Check.see(desk, 0, MAJOR, MAJOR), 0);
        about(desk, 0, 0, 2, 2, 1);
        CHECK.due("one is needed", desk.needed(0), 1);
        CHECK.due("refused by a good one", desk.item(0, GOOD), 2);
        about(desk, 0, 2, 3, 2, 1);
    }

    private static void neverAccepted() {
        SamplingDesk desk = deskWith(3, -1, 0);
        desk.lot(0, 3);
        CHECK.due("needed", desk.needed(0), 1);
        CHECK.due("a good one", desk.item(0, GOOD), 2);
        about(desk, 0, 2, 1, 0, 0);
    }

    private static void undoing() {
        SamplingDesk desk = deskWith(9, 3, 4);
        desk.lot(0, 10);
        CHECK.due("nothing to undo", desk.undo(0), -2);
        Check.see(desk, 0, MINOR, MINOR, MAJOR, MINOR);
        about(desk, 0, 0, 4, 2, 0);
        CHECK.due("undo the third minor", desk.undo(0), 3);
        about(desk, 0, 0, 3, 1, 0);
        CHECK.due("undo the major", desk.undo(0), 2);
        about(desk, 0, 0, 2, 0, 0);
        CHECK.due("not good ones", desk.score(0, 4), 2);
        CHECK.due("undo", desk.undo(0), 1);
        CHECK.due("undo", desk.undo(0), 0);
        CHECK.due("nothing more", desk.undo(0), -2);
        about(desk, 0, 0, 0, 0, 0);
        CHECK.due("a critical", desk.item(0, CRITICAL), 2);
        CHECK.due("decided", desk.undo(0), -2);
        CHECK.due("none such", desk.undo(1), -2);
        CHECK.due("none below 0", desk.undo(-1), -2);
    }

    private static void undoOverAStage() {
        SamplingDesk desk = deskWith(2, 0, 2, 2, 1, 2);
        desk.lot(0, 10);
        Check.see(desk, 0, MAJOR, GOOD);
        about(desk, 0, 0, 2, 1, 1);
        CHECK.due("back", desk.undo(0), 1);
        about(desk, 0, 0, 1, 1, 0);
        CHECK.due("back", desk.undo(0), 0);
        CHECK.due("other items", Check.see(desk, 0, GOOD, GOOD), 1);
    }

    private static void correcting() {
        SamplingDesk desk = deskWith(4, 0, 3, 4, 2, 3);
        desk.lot(0, 10);
        Check.see(desk, 0, GOOD, MAJOR, MINOR);
        CHECK.due("to a minor", desk.correct(0, 1, MINOR), 0);
        about(desk, 0, 0, 3, 0, 0);
        CHECK.due("a third minor", desk.correct(0, 0, MINOR), 0);
        about(desk, 0, 0, 3, 1, 0);
        CHECK.due("the same CLASS", desk.correct(0, 0, MINOR), 0);
        about(desk, 0, 0, 3, 1, 0);
        CHECK.due("item 3", desk.correct(0, 3, GOOD), -2);
        CHECK.due("item -1", desk.correct(0, -1, GOOD), -2);
        CHECK.due("class 4", desk.correct(0, 0, 4), -2);
        CHECK.due("class -1", desk.correct(0, 0, -1), -2);
        CHECK.due("lot 1", desk.correct(1, 0, GOOD), -2);
        CHECK.due("lot -1", desk.correct(-1, 0, GOOD), -2);
        about(desk, 0, 0, 3, 1, 0);
        CHECK.due("two majors", desk.correct(0, 0, MAJOR), 0);
        CHECK.due("two majors", desk.correct(0, 1, MAJOR), 0);
        about(desk, 0, 0, 3, 2, 0);
        CHECK.due("a third one decides", desk.correct(0, 2, MAJOR), 2);
        about(desk, 0, 2, 3, 3, 0);
        CHECK.due("decided", desk.correct(0, 0, GOOD), -2);
        CHECK.due("its RUN has it", desk.run(0, 0), 2);
    }

    private static void correctingDropsItems() {
        SamplingDesk desk = deskWith(3, 0, 3, 4, 3, 4);
        desk.cost(MAJOR, 7);
        desk.lot(0, 10);
        Check.see(desk, 0, MAJOR, GOOD, GOOD, MAJOR, MAJOR);
        about(desk, 0, 0, 5, 3, 1);
        CHECK.due("taken at the first end", desk.correct(0, 0, GOOD), 1);
        about(desk, 0, 1, 3, 0, 0);
        CHECK.due("items seen", desk.score(0, 3), 3);
        CHECK.due("items not good", desk.score(0, 4), 0);
        CHECK.due("cents", desk.score(0, 5), 0);
        CHECK.due("its RUN has it", desk.run(0, 0), 1);
        desk.lot(0, 10);
        Check.see(desk, 1, MAJOR, GOOD, MAJOR, GOOD, GOOD, GOOD);
        CHECK.due("refused in the first STAGE", desk.correct(1, 1, MAJOR), 2);
        about(desk, 1, 2, 3, 3, 0);
        desk.lot(0, 10);
        Check.see(desk, 2, MAJOR, GOOD, GOOD, GOOD, MAJOR);
        CHECK.due("critical in between", desk.correct(2, 1, CRITICAL), 2);
        about(desk, 2, 2, 2, 2, 0);
        CHECK.due("cents of the items that are left", desk.score(0, 5), 28);
    }

    private static void aboutALot() {
        SamplingDesk desk = new SamplingDesk();
        int a = Check.planOf(desk, 1, 0, 1);
        int b = Check.planOf(desk, 2, 0, 1);
        desk.supplier(a, b, a);
        desk.lot(0, 17);
        desk.lot(0, 18);
        desk.lot(0, 19);
        desk.item(0, MAJOR);
        desk.item(1, MAJOR);
        desk.lot(0, 20);
        int[][] want = {{2, 1, 1, 0, a, 17, 0}, {2, 1, 1, 0, a, 18, 0}, {0, 0, 0, 0, a, 19, 0},
            {0, 0, 0, 0, b, 20, 1}};
        for (int lot = 0; lot < 4; lot++) {
            for (int what = 0; what <= 6; what++) {
                CHECK.due("about(" + lot + ", " + what + ")", desk.about(lot, what), want[lot][what]);
            }
        }
        CHECK.due("lot 2 keeps its plan", desk.item(2, GOOD), 1);
        CHECK.due("lot 3 has the tight one", desk.item(3, GOOD), 0);
        CHECK.due("what 7", desk.about(0, 7), -2);
        CHECK.due("what -1", desk.about(0, -1), -2);
        CHECK.due("lot 4", desk.about(4, 0), -2);
        CHECK.due("lot -1", desk.about(-1, 0), -2);
    }

    private static void needing() {
        SamplingDesk desk = deskWith(5, 0, 4, 3, 2, 6, 2, 5, 6);
        desk.lot(0, 10);
        CHECK.due("four majors", desk.needed(0), 4);
        desk.item(0, GOOD);
        desk.item(0, GOOD);
        CHECK.due("three goods", desk.needed(0), 3);
        desk.item(0, MAJOR);
        CHECK.due("to the end none, then two or three of it", desk.needed(0), 5);
        Check.see(desk, 0, MAJOR, MAJOR);
        about(desk, 0, 0, 5, 3, 1);
        CHECK.due("three majors", desk.needed(0), 3);
        Check.see(desk, 0, MINOR, MINOR);
        CHECK.due("none in this STAGE, the last one's end", desk.needed(0), 3);
        desk.item(0, GOOD);
        CHECK.due("the last STAGE", desk.needed(0), 2);
        desk.item(0, MINOR);
        CHECK.due("its last item", desk.needed(0), 1);
        CHECK.due("taken", desk.item(0, GOOD), 1);
        CHECK.due("decided", desk.needed(0), 0);
        CHECK.due("lot 1", desk.needed(1), -2);
        CHECK.due("lot -1", desk.needed(-1), -2);
    }

    private static void wrongInputs() {
        SamplingDesk desk = deskWith(5, 0, 4, 3, 4, 5);
        desk.lot(0, 10);
        desk.item(0, MAJOR);
        CHECK.due("class -1", desk.item(0, -1), -2);
        CHECK.due("class 4", desk.item(0, 4), -2);
        CHECK.due("class least", desk.item(0, Integer.MIN_VALUE), -2);
        CHECK.due("lot 1", desk.item(1, GOOD), -2);
        CHECK.due("lot -1", desk.item(-1, GOOD), -2);
        CHECK.due("lot most", desk.item(Integer.MAX_VALUE, GOOD), -2);
        about(desk, 0, 0, 1, 1, 0);
    }
}
