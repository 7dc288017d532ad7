/** Counts the calls whose answer is not the one that is due, and makes plans and lots for tests. */
final class Check {
    private int wrong = 0;
    private int asked = 0;
    private String words = "";

    /** The document's words that the answers from here on are held against. */
    void says(String sentence) {
        words = "'" + sentence + "': ";
    }

    void due(String call, long got, long want) {
        asked++;
        if (got != want) {
            wrong++;
            System.out.println(words + call + " answered " + got + ", due is " + want);
        }
    }

    void due(String call, String got, String want) {
        asked++;
        if (!got.equals(want)) {
            wrong++;
            System.out.println(words + call + " answered " + got + ", due is " + want);
        }
    }

    void finish(String name) {
        System.out.println(name + ": " + asked + " asked, " + wrong + " wrong");
        if (wrong != 0 || asked == 0) {
            System.exit(1);
        }
    }

    /** A new plan; the STAGES are told as size, accept, refuse, size, accept, refuse .. */
    static int planOf(SamplingDesk desk, int... stages) {
        int plan = desk.plan();
        for (int i = 0; i + 2 < stages.length; i += 3) {
            desk.stage(plan, stages[i], stages[i + 1], stages[i + 2]);
        }
        return plan;
    }

    /** Sees items of these CLASSES; what the lot is behind the last one. */
    static int see(SamplingDesk desk, int lot, int... classes) {
        int state = 0;
        for (int which : classes) {
            state = desk.item(lot, which);
        }
        return state;
    }

    /** Sees as many items of one CLASS; what the lot is behind the last one. */
    static int seeMany(SamplingDesk desk, int lot, int many, int which) {
        int state = 0;
        for (int i = 0; i < many; i++) {
            state = desk.item(lot, which);
        }
        return state;
    }

    /** The part at hand as "up/down". */
    static String partOf(SamplingDesk desk) {
        return desk.up() + "/" + desk.down();
    }
}
