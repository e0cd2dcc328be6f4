/** Halls to start a test from. */
final class Halls {
    private Halls() {
    }

    /** A hall with so many couples of the club 0 and judges of the club 1. */
    static SkateSheet hall(int couples, int judges) {
        SkateSheet x = new SkateSheet();
        for (int i = 0; i < couples; i++) {
            x.couple(0);
        }
        for (int i = 0; i < judges; i++) {
            x.judge(1);
        }
        return x;
    }

    /** The same, with an event of so many dances open for all couples. */
    static SkateSheet opened(int couples, int judges, int dances) {
        SkateSheet x = hall(couples, judges);
        x.open((1 << couples) - 1, dances);
        return x;
    }

    /** An event of so many dances for six couples, in a round (quota 3, size 4) of which so many were danced. */
    static SkateSheet inRound(int dances, int danced) {
        SkateSheet x = opened(6, 3, dances);
        x.round(3, 4);
        for (int dance = 0; dance < danced; dance++) {
            x.dance();
            x.cross(0, dance, 7);
            x.cross(2, dance, 14);
        }
        return x;
    }

    /** The same danced to its end and cut: 1 and 2 have most crosses, 0 and 3 are alike; 4 and 5 are out. */
    static SkateSheet behindACut(int dances) {
        SkateSheet x = inRound(dances, dances);
        x.cut();
        return x;
    }

    /** All couples in a final of so many dances. */
    static SkateSheet inFinal(int couples, int judges, int dances) {
        SkateSheet x = opened(couples, judges, dances);
        x.begin();
        return x;
    }

    /**
     * Of the couples 0 to 4 all but 0 are entered and in a final of two dances, the judge 3 is not of the panel, and
     * there are the sheets of the judges 0 and 2 for the dance 0 and that of the judge 1 for the dance 1.
     */
    static SkateSheet finalOfFour() {
        SkateSheet x = hall(5, 4);
        x.open(0b11110, 2);
        x.begin();
        x.sheet(0, 0, 4321);
        x.sheet(2, 0, 2143);
        x.sheet(1, 1, 1324);
        x.penalise(3, 1, true);
        return x;
    }

    /** All couples, placed in their order by one sheet for the one dance, in an event that was closed. */
    static SkateSheet closed(int couples, int judges) {
        SkateSheet x = hall(couples, judges);
        hold(x, (1 << couples) - 1, inOrder(couples));
        return x;
    }

    /** Holds an event of one dance for these, with this sheet of the judge 0 (none if it is 0). */
    static void hold(SkateSheet x, int couples, int sheet) {
        x.open(couples, 1);
        x.begin();
        if (sheet != 0) {
            x.sheet(0, 0, sheet);
        }
        x.close();
    }

    /** The sheet that places so many in their order: 321, 4321 and so on. */
    static int inOrder(int number) {
        int sheet = 0;
        for (int mark = number; mark > 0; mark--) {
            sheet = sheet * 10 + mark;
        }
        return sheet;
    }

    /** Tells the sheets of a dance, of the judges 0, 1, .. in turn. */
    static void tell(SkateSheet x, int dance, int... sheets) {
        for (int judge = 0; judge < sheets.length; judge++) {
            x.sheet(judge, dance, sheets[judge]);
        }
    }

    /** Dances all that is left of the round and cuts it without a cross more. */
    static int finishRound(SkateSheet x) {
        while (x.many(7) < x.many(6)) {
            x.dance();
        }
        return x.cut();
    }
}
