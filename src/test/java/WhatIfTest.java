/** Promises 22 to 25: what would be, with nothing changed by asking. */
public final class WhatIfTest {
    private static final Class<?> ILLEGAL = IllegalArgumentException.class;
    private static final Class<?> BOUNDS = IndexOutOfBoundsException.class;

    private WhatIfTest() {
    }

    public static void main(String[] args) {
        marksAreExchanged();
        theSheetOfThatDanceIsMeant();
        exchangesAreRefused();
        theBestExchangeIsFound();
        numbersOfCouplesTellTheExchange();
        sheetsAreLeftOut();
        leavingOutIsRefused();
        fragileCountsJudges();
        nothingIsFragile();
        askingChangesNothing();
        Check.end();
    }

    /** A final of one dance: 0: 1 1 2, 1: 2 3 1, 2: 3 2 3, so that they are placed in their order. */
    private static SkateSheet threeCouples() {
        SkateSheet x = Halls.inFinal(3, 3, 1);
        Halls.tell(x, 0, 321, 231, 312);
        return x;
    }

    private static void marksAreExchanged() {
        SkateSheet x = threeCouples();
        // 0: 2 1 2, 1: 1 3 1.
        Check.due("exchanged(0, 0, 0, 1, 0)", x.exchanged(0, 0, 0, 1, 0), 4);
        Check.due("exchanged(0, 0, 0, 1, 1)", x.exchanged(0, 0, 0, 1, 1), 2);
        Check.due("exchanged(0, 0, 1, 0, 1)", x.exchanged(0, 0, 1, 0, 1), 2);
        Check.due("exchanged(0, 0, 0, 1, 2)", x.exchanged(0, 0, 0, 1, 2), 6);
        Check.due("exchanged(0, 0, 1, 1, 1)", x.exchanged(0, 0, 1, 1, 1), 4);
        // 1: 3 3 1, 2: 2 2 3.
        Check.due("exchanged(0, 0, 1, 2, 2)", x.exchanged(0, 0, 1, 2, 2), 4);
        Check.due("result(1, 0) as before", x.result(1, 0), 4);
        x.penalise(1, 0, true);
        Check.due("exchanged(0, 0, 0, 1, 1) of a penalised one", x.exchanged(0, 0, 0, 1, 1), 6);
    }

    private static void theSheetOfThatDanceIsMeant() {
        SkateSheet x = Halls.inFinal(3, 3, 2);
        // Places 0: 1 3, 1: 2 1, 2: 3 2.
        x.sheet(2, 0, 321);
        x.sheet(2, 1, 213);
        Check.due("exchanged(2, 1, 0, 1, 0)", x.exchanged(2, 1, 0, 1, 0), 2);
        // 0 with 2 and 3 shares with 2, which has 3 and 2.
        Check.due("exchanged(2, 0, 0, 1, 0)", x.exchanged(2, 0, 0, 1, 0), 5);
        Check.due("bestExchange(2, 1, 0)", x.bestExchange(2, 1, 0), 1);
        // All have the total 4 then, and 0 shares the first places with 1.
        Check.due("bestExchange(2, 0, 0)", x.bestExchange(2, 0, 0), 12);
        Check.due("result(0, 0) as before", x.result(0, 0), 4);
    }

    private static void exchangesAreRefused() {
        SkateSheet none = Halls.hall(3, 3);
        none.open(7, 1);
        Check.refused(none, "exchanged before the final", BOUNDS, () -> none.exchanged(0, 0, 0, 1, 0));
        Check.refused(none, "bestExchange before the final", BOUNDS, () -> none.bestExchange(0, 0, 0));
        SkateSheet x = Halls.hall(4, 3);
        x.open(14, 2);
        x.begin();
        x.sheet(0, 0, 321);
        Check.refused(x, "exchanged(1, 0, 1, 2, 1)", BOUNDS, () -> x.exchanged(1, 0, 1, 2, 1));
        Check.refused(x, "exchanged(0, 1, 1, 2, 1)", BOUNDS, () -> x.exchanged(0, 1, 1, 2, 1));
        Check.refused(x, "exchanged(-1, 0, 1, 2, 1)", BOUNDS, () -> x.exchanged(-1, 0, 1, 2, 1));
        Check.refused(x, "exchanged(0, -1, 1, 2, 1)", BOUNDS, () -> x.exchanged(0, -1, 1, 2, 1));
        Check.refused(x, "exchanged(0, 0, 0, 2, 1)", BOUNDS, () -> x.exchanged(0, 0, 0, 2, 1));
        Check.refused(x, "exchanged(0, 0, 1, 4, 1)", BOUNDS, () -> x.exchanged(0, 0, 1, 4, 1));
        Check.refused(x, "exchanged(0, 0, 1, 2, 0)", BOUNDS, () -> x.exchanged(0, 0, 1, 2, 0));
        Check.refused(x, "exchanged(0, 0, 1, 2, 33)", BOUNDS, () -> x.exchanged(0, 0, 1, 2, 33));
        Check.refused(x, "bestExchange(1, 0, 1)", BOUNDS, () -> x.bestExchange(1, 0, 1));
        Check.refused(x, "bestExchange(0, 2, 1)", BOUNDS, () -> x.bestExchange(0, 2, 1));
        Check.refused(x, "bestExchange(7, 0, 1)", BOUNDS, () -> x.bestExchange(7, 0, 1));
        Check.refused(x, "bestExchange(0, 0, 0)", BOUNDS, () -> x.bestExchange(0, 0, 0));
        Check.refused(x, "bestExchange(0, 0, -1)", BOUNDS, () -> x.bestExchange(0, 0, -1));
        x.lose(0, 0);
        Check.refused(x, "exchanged of a lost sheet", BOUNDS, () -> x.exchanged(0, 0, 1, 2, 1));
        Check.refused(x, "bestExchange of a lost sheet", BOUNDS, () -> x.bestExchange(0, 0, 1));
    }

    private static void theBestExchangeIsFound() {
        SkateSheet x = threeCouples();
        Check.due("bestExchange(0, 0, 0) of the first one", x.bestExchange(0, 0, 0), -1);
        Check.due("bestExchange(0, 0, 1)", x.bestExchange(0, 0, 1), 1);
        // With 0 and 2 exchanged in the sheet 1: 0: 1 2 2, 1: 2 3 1, 2: 3 1 3, and 1 stays behind 0.
        Check.due("exchanged(1, 0, 0, 2, 1)", x.exchanged(1, 0, 0, 2, 1), 4);
        // With 0 and 1 exchanged there: 0: 1 3 2, 1: 2 1 1.
        Check.due("bestExchange(1, 0, 1)", x.bestExchange(1, 0, 1), 1);
        SkateSheet alike = Halls.inFinal(3, 3, 1);
        // One sheet of three is the only one: any mark is a place. 2 is first by 02, second by 12.
        alike.sheet(0, 0, 321);
        Check.due("bestExchange(0, 0, 2)", alike.bestExchange(0, 0, 2), 2);
        Check.due("bestExchange(0, 0, 1)", alike.bestExchange(0, 0, 1), 1);
        Check.due("bestExchange(0, 0, 0)", alike.bestExchange(0, 0, 0), -1);
    }

    private static void numbersOfCouplesTellTheExchange() {
        SkateSheet x = Halls.hall(10, 3);
        x.open(0b1101010000, 1);
        x.begin();
        x.sheet(0, 0, 4321);
        Check.due("bestExchange(0, 0, 9)", x.bestExchange(0, 0, 9), 49);
        Check.due("bestExchange(0, 0, 8)", x.bestExchange(0, 0, 8), 48);
        // 6 becomes the first one with 4 alone.
        Check.due("bestExchange(0, 0, 6)", x.bestExchange(0, 0, 6), 46);
    }

    private static void sheetsAreLeftOut() {
        SkateSheet x = threeCouples();
        Check.due("without(0, 0)", x.without(0, 0), 2);
        // The sheets 1 and 2: 0: 1 2, 1: 3 1, 2: 2 3, two are wanted: 0 by p 2, 1 by p 3, 2 too; 1 has the smaller sum.
        Check.due("without(1, 1)", x.without(1, 1), 4);
        // The sheet 2 alone.
        Check.due("without(3, 1)", x.without(3, 1), 2);
        Check.due("without(3, 0)", x.without(3, 0), 4);
        Check.due("without(7, 2)", x.without(7, 2), 4);
        Check.due("without(127, 2)", x.without(127, 2), 4);
        // Judges that there are not have no sheets.
        Check.due("without(120, 2)", x.without(120, 2), 6);
        Check.due("many(10) as before", x.many(10), 3);
    }

    private static void leavingOutIsRefused() {
        SkateSheet none = Halls.hall(3, 3);
        none.open(7, 1);
        Check.refused(none, "without(1, 0) before the final", BOUNDS, () -> none.without(1, 0));
        SkateSheet x = Halls.hall(4, 3);
        x.open(14, 1);
        x.begin();
        Check.refused(x, "without(1, 0)", BOUNDS, () -> x.without(1, 0));
        Check.refused(x, "without(128, 0)", BOUNDS, () -> x.without(128, 0));
        Check.refused(x, "without(128, 1)", ILLEGAL, () -> x.without(128, 1));
        Check.refused(x, "without(-1, 1)", ILLEGAL, () -> x.without(-1, 1));
    }

    private static void fragileCountsJudges() {
        SkateSheet x = Halls.inFinal(3, 5, 1);
        // 0 has three marks of 1 and 1 has two: without one of the three nobody has three of four.
        Halls.tell(x, 0, 321, 321, 321, 312, 312);
        Check.due("without(1, 0)", x.without(1, 0), 3);
        Check.due("fragile() of three against two", x.fragile(), 1);
        // Four against one: without two of the four 0 still has two of three; without three of them 0 and 1 share.
        x.sheet(3, 0, 321);
        Check.due("without(3, 0)", x.without(3, 0), 2);
        Check.due("without(7, 0)", x.without(7, 0), 3);
        Check.due("fragile() of four against one", x.fragile(), 3);
        SkateSheet one = Halls.inFinal(3, 3, 1);
        one.sheet(2, 0, 321);
        Check.due("fragile() with a single sheet", one.fragile(), 1);
    }

    private static void nothingIsFragile() {
        SkateSheet x = Halls.hall(3, 3);
        Check.due("fragile() without an event", x.fragile(), -1);
        x.open(7, 1);
        Check.due("fragile() without a final", x.fragile(), -1);
        x.begin();
        Check.due("fragile() without sheets", x.fragile(), -1);
        // All agree: only without all three sheets there would be another set, and all is too many.
        Halls.tell(x, 0, 321, 321, 321);
        Check.due("fragile() of three that agree", x.fragile(), -1);
        x.penalise(0, 0, true);
        x.penalise(1, 0, true);
        Check.due("fragile() where one is not penalised", x.fragile(), -1);
        x.close();
        Check.due("fragile() behind the final", x.fragile(), -1);
    }

    private static void askingChangesNothing() {
        SkateSheet x = threeCouples();
        long before = x.digest();
        x.exchanged(0, 0, 0, 1, 0);
        x.bestExchange(1, 0, 2);
        x.without(5, 1);
        x.fragile();
        Check.due("digest() behind all questions", x.digest(), before);
        x.close();
        Check.due("ofJudge(1, 2) behind all questions", x.ofJudge(1, 2), 4);
    }
}
