/** Halls to start a test from. */
final class Halls {
    private Halls() {
    }

    /** A hall with so many couples of the club 0 and judges of the club 1. */
    static SkateSheet hall(int couples, int judges) {
        SkateSheet x = new SkateSheet();
        for (int i = 0; i < couples; i++) {
            x.couple(0);
        }
        for (int i = 0; i < judges; i++) {
            x.judge(1);
        }
        return x;
    }

    /** The same, with all couples in a final of so many dances. */
    static SkateSheet inFinal(int couples, int judges, int dances) {
        SkateSheet x = hall(couples, judges);
        x.open((1 << couples) - 1, dances);
        x.begin();
        return x;
    }

    /** Tells the sheets of a dance, of the judges 0, 1, .. in turn. */
    static void tell(SkateSheet x, int dance, int... sheets) {
        for (int judge = 0; judge < sheets.length; judge++) {
            x.sheet(judge, dance, sheets[judge]);
        }
    }

    /** Dances all that is left of the round and cuts it without a cross more. */
    static int finishRound(SkateSheet x) {
        while (x.many(7) < x.many(6)) {
            x.dance();
        }
        return x.cut();
    }
}
