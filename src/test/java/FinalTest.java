/** Promises 9 to 13, 17 and 18. */
public final class FinalTest {
    private static final Class<?> ILLEGAL = IllegalArgumentException.class;
    private static final Class<?> STATE = IllegalStateException.class;
    private static final Class<?> BOUNDS = IndexOutOfBoundsException.class;

    private FinalTest() {
    }

    public static void main(String[] args) {
        aFinalBegins();
        sheetsAreTold();
        sheetsAreRefused();
        sheetsAreLost();
        penaltiesAreKept();
        votesAreCounted();
        placesByNumber();
        placesBySum();
        placesByLaterMarks();
        placesShared();
        placesOfThePenalised();
        placesWithoutASheet();
        positionsAreThoseThatAreIn();
        questionsRefuse();
        closeRefuses();
        Check.end();
    }

    private static void aFinalBegins() {
        SkateSheet x = Halls.hall(9, 3);
        Check.refused(x, "begin() without an event", STATE, x::begin);
        x.open(511, 1);
        Check.refused(x, "begin() with nine", STATE, x::begin);
        x.round(8, 6);
        x.dance();
        x.cross(0, 0, 255);
        Check.refused(x, "begin() in a round", STATE, x::begin);
        x.cut();
        Check.due("many(4)", x.many(4), 0);
        Check.due("begin()", x.begin(), 8);
        Check.due("many(4)", x.many(4), 1);
        Check.refused(x, "begin() once more", STATE, x::begin);
        Check.due("sheet of eight", x.sheet(0, 0, 87654321), 1);
    }

    private static void sheetsAreTold() {
        SkateSheet x = Halls.inFinal(3, 5, 2);
        Check.due("sheet(0, 0, 321)", x.sheet(0, 0, 321), 1);
        Check.due("sheet(4, 0, 123)", x.sheet(4, 0, 123), 2);
        Check.due("sheet(4, 1, 123)", x.sheet(4, 1, 123), 1);
        Check.due("sheet(4, 0, 321) told again", x.sheet(4, 0, 321), 2);
        Check.due("votes(0, 0, 1)", x.votes(0, 0, 1), 2);
        Check.due("many(10)", x.many(10), 3);
        Check.due("ofJudge(4, 3)", x.ofJudge(4, 3), 2);
        Check.due("ofJudge(0, 3)", x.ofJudge(0, 3), 1);
        Check.due("ofJudge(1, 3)", x.ofJudge(1, 3), 0);
    }

    private static void sheetsAreRefused() {
        SkateSheet none = Halls.hall(3, 3);
        none.open(7, 1);
        Check.refused(none, "sheet(0, 0, 321) before the final", BOUNDS, () -> none.sheet(0, 0, 321));
        SkateSheet x = Halls.inFinal(3, 4, 2);
        Check.refused(x, "sheet(-1, 0, 321)", BOUNDS, () -> x.sheet(-1, 0, 321));
        Check.refused(x, "sheet(3, 0, 321) of one beside the panel", BOUNDS, () -> x.sheet(3, 0, 321));
        Check.refused(x, "sheet(32, 0, 321)", BOUNDS, () -> x.sheet(32, 0, 321));
        Check.refused(x, "sheet(0, -1, 321)", BOUNDS, () -> x.sheet(0, -1, 321));
        Check.refused(x, "sheet(0, 2, 321)", BOUNDS, () -> x.sheet(0, 2, 321));
        Check.refused(x, "sheet(0, 2, 0)", BOUNDS, () -> x.sheet(0, 2, 0));
        int[] wrong = {0, 21, 1321, 4321, 421, 320, 322, 111, -321, Integer.MIN_VALUE, Integer.MAX_VALUE};
        for (int marks : wrong) {
            Check.refused(x, "sheet(0, 0, " + marks + ")", ILLEGAL, () -> x.sheet(0, 0, marks));
        }
    }

    private static void sheetsAreLost() {
        SkateSheet x = Halls.inFinal(3, 3, 2);
        Halls.tell(x, 0, 321, 321, 123);
        Check.due("lose(0, 0)", x.lose(0, 0), 2);
        Check.due("many(10)", x.many(10), 2);
        Check.due("ofJudge(0, 3)", x.ofJudge(0, 3), 0);
        Check.due("votes(0, 0, 1)", x.votes(0, 0, 1), 1);
        Check.refused(x, "lose(0, 0) once more", BOUNDS, () -> x.lose(0, 0));
        Check.refused(x, "lose(0, 1)", BOUNDS, () -> x.lose(0, 1));
        Check.refused(x, "lose(-1, 5)", BOUNDS, () -> x.lose(-1, 5));
        Check.refused(x, "lose(7, 0)", BOUNDS, () -> x.lose(7, 0));
        // Numbers whose products with the dances of a judge wrap around to small ones.
        Check.refused(x, "lose(858993460, 0)", BOUNDS, () -> x.lose(858993460, 0));
        Check.refused(x, "lose(0, 5)", BOUNDS, () -> x.lose(0, 5));
        Check.refused(x, "lose(0, -1)", BOUNDS, () -> x.lose(0, -1));
        Check.due("sheet(0, 0, 213) told again", x.sheet(0, 0, 213), 3);
        x.close();
        Check.refused(x, "lose(0, 0) behind the final", BOUNDS, () -> x.lose(0, 0));
    }

    private static void penaltiesAreKept() {
        SkateSheet none = Halls.hall(3, 3);
        none.open(7, 1);
        Check.refused(none, "penalise(0, 0, true) before the final", BOUNDS, () -> none.penalise(0, 0, true));
        SkateSheet x = Halls.hall(4, 3);
        x.open(14, 2);
        x.begin();
        Check.refused(x, "penalise(0, 0, true) of one that is not in", BOUNDS, () -> x.penalise(0, 0, true));
        Check.refused(x, "penalise(-1, 0, true)", BOUNDS, () -> x.penalise(-1, 0, true));
        Check.refused(x, "penalise(33, 0, true)", BOUNDS, () -> x.penalise(33, 0, true));
        Check.refused(x, "penalise(1, 2, true)", BOUNDS, () -> x.penalise(1, 2, true));
        Check.refused(x, "penalise(1, -1, true)", BOUNDS, () -> x.penalise(1, -1, true));
        Check.due("penalise(1, 1, true)", x.penalise(1, 1, true), false);
        Check.due("penalise(1, 1, true)", x.penalise(1, 1, true), true);
        Check.due("penalise(1, 0, false)", x.penalise(1, 0, false), false);
        Check.due("penalise(2, 1, false)", x.penalise(2, 1, false), false);
        Check.due("placed(1, 1, 1)", x.placed(1, 1, 1), 5);
        Check.due("penalise(1, 1, false)", x.penalise(1, 1, false), true);
        Check.due("penalise(1, 1, false)", x.penalise(1, 1, false), false);
        Check.due("placed(1, 1, 1)", x.placed(1, 1, 1), 4);
    }

    private static void votesAreCounted() {
        SkateSheet x = Halls.inFinal(3, 3, 2);
        Halls.tell(x, 0, 321, 231, 312);
        x.penalise(0, 0, true);
        int[][] votes = {{2, 3, 3}, {1, 2, 3}, {0, 1, 3}};
        for (int couple = 0; couple < 3; couple++) {
            for (int p = 1; p <= 3; p++) {
                Check.due("votes(" + couple + ", 0, " + p + ")", x.votes(couple, 0, p), votes[couple][p - 1]);
                Check.due("votes(" + couple + ", 1, " + p + ")", x.votes(couple, 1, p), 0);
            }
        }
    }

    private static void duePlaced(SkateSheet x, int couple, int dance, int place, int reason) {
        Check.due("placed(" + couple + ", " + dance + ", 0)", x.placed(couple, dance, 0), place);
        Check.due("placed(" + couple + ", " + dance + ", 1)", x.placed(couple, dance, 1), reason);
    }

    private static void placesByNumber() {
        SkateSheet x = Halls.inFinal(4, 3, 1);
        // 0: 1 2 2, 1: 2 1 3, 2: 3 3 1, 3: 4 4 4.
        Halls.tell(x, 0, 4321, 4312, 4132);
        duePlaced(x, 0, 0, 2, 1);
        duePlaced(x, 1, 0, 4, 1);
        duePlaced(x, 2, 0, 6, 0);
        duePlaced(x, 3, 0, 8, 0);
    }

    private static void placesBySum() {
        SkateSheet x = Halls.inFinal(3, 3, 1);
        // 0: 1 2 3, 1: 2 3 2, 2: 3 1 1.
        Halls.tell(x, 0, 321, 132, 123);
        duePlaced(x, 2, 0, 2, 0);
        duePlaced(x, 0, 0, 4, 2);
        duePlaced(x, 1, 0, 6, 2);
    }

    private static void placesByLaterMarks() {
        SkateSheet x = Halls.inFinal(4, 3, 1);
        // 0: 2 1 4, 1: 1 2 3, 2: 4 3 1, 3: 3 4 2.
        Halls.tell(x, 0, 3412, 4321, 2134);
        duePlaced(x, 1, 0, 2, 3);
        duePlaced(x, 0, 0, 4, 3);
        duePlaced(x, 2, 0, 6, 2);
        duePlaced(x, 3, 0, 8, 2);
    }

    private static void placesShared() {
        SkateSheet x = Halls.inFinal(3, 3, 1);
        // Two sheets want both of them: 0: 1 2, 1: 2 1, 2: 3 3.
        Halls.tell(x, 0, 321, 312);
        duePlaced(x, 0, 0, 3, 4);
        duePlaced(x, 1, 0, 3, 4);
        duePlaced(x, 2, 0, 6, 0);
        SkateSheet one = Halls.inFinal(3, 3, 1);
        // One sheet wants one mark: everybody is the only candidate of its turn.
        one.sheet(1, 0, 132);
        duePlaced(one, 2, 0, 2, 0);
        duePlaced(one, 0, 0, 4, 0);
        duePlaced(one, 1, 0, 6, 0);
    }

    private static void placesOfThePenalised() {
        SkateSheet x = Halls.inFinal(4, 3, 1);
        Halls.tell(x, 0, 4321, 4321, 4321);
        x.penalise(0, 0, true);
        duePlaced(x, 0, 0, 8, 5);
        duePlaced(x, 1, 0, 2, 0);
        duePlaced(x, 3, 0, 6, 0);
        x.penalise(2, 0, true);
        duePlaced(x, 0, 0, 7, 5);
        duePlaced(x, 2, 0, 7, 5);
        duePlaced(x, 1, 0, 2, 0);
        duePlaced(x, 3, 0, 4, 0);
        x.penalise(1, 0, true);
        x.penalise(3, 0, true);
        duePlaced(x, 3, 0, 5, 5);
    }

    private static void placesWithoutASheet() {
        SkateSheet x = Halls.inFinal(4, 3, 1);
        duePlaced(x, 0, 0, 5, 4);
        x.penalise(2, 0, true);
        duePlaced(x, 0, 0, 5, 4);
        duePlaced(x, 2, 0, 5, 5);
    }

    private static void positionsAreThoseThatAreIn() {
        SkateSheet x = Halls.hall(10, 3);
        x.open(0b1001000100, 1);
        x.begin();
        Halls.tell(x, 0, 312, 312, 312);
        duePlaced(x, 2, 0, 4, 0);
        duePlaced(x, 6, 0, 2, 0);
        duePlaced(x, 9, 0, 6, 0);
    }

    private static void questionsRefuse() {
        SkateSheet none = Halls.hall(3, 3);
        none.open(7, 1);
        Check.refused(none, "votes(0, 0, 1) before the final", BOUNDS, () -> none.votes(0, 0, 1));
        Check.refused(none, "placed(0, 0, 0) before the final", BOUNDS, () -> none.placed(0, 0, 0));
        SkateSheet x = Halls.hall(4, 3);
        x.open(14, 2);
        x.begin();
        Check.refused(x, "votes(0, 0, 1)", BOUNDS, () -> x.votes(0, 0, 1));
        Check.refused(x, "votes(1, 2, 0)", BOUNDS, () -> x.votes(1, 2, 0));
        Check.refused(x, "votes(1, -1, 1)", BOUNDS, () -> x.votes(1, -1, 1));
        Check.refused(x, "votes(1, 0, 0)", ILLEGAL, () -> x.votes(1, 0, 0));
        Check.refused(x, "votes(1, 0, 4)", ILLEGAL, () -> x.votes(1, 0, 4));
        Check.refused(x, "placed(0, 0, 0)", BOUNDS, () -> x.placed(0, 0, 0));
        Check.refused(x, "placed(1, 2, 2)", BOUNDS, () -> x.placed(1, 2, 2));
        Check.refused(x, "placed(1, -1, 0)", BOUNDS, () -> x.placed(1, -1, 0));
        Check.refused(x, "placed(1, 0, 2)", ILLEGAL, () -> x.placed(1, 0, 2));
        Check.refused(x, "placed(1, 0, -1)", ILLEGAL, () -> x.placed(1, 0, -1));
    }

    private static void closeRefuses() {
        SkateSheet x = Halls.hall(3, 3);
        Check.refused(x, "close() without an event", STATE, x::close);
        x.open(7, 1);
        Check.refused(x, "close() before the final", STATE, x::close);
        x.begin();
        Check.due("close()", x.close(), 0);
        Check.refused(x, "close() once more", STATE, x::close);
        x.open(7, 1);
        x.begin();
        Check.due("close() of the next event", x.close(), 1);
        Check.due("many(2)", x.many(2), 2);
    }
}
