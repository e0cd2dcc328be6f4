import java.math.BigInteger;

/** The sentences of the promises 22 to 26 that name a boundary, a test each. */
public final class WhatIfBoundsTest {
    private WhatIfBoundsTest() {
    }

    public static void main(String[] args) {
        whatWouldBeNeedsAFinal();
        anExchangeNeedsASheet();
        anExchangeIsOfThoseThatAreIn();
        exchangingWithItselfChangesNothing();
        anExchangeIsOfThatSheetAlone();
        theBestExchangeNeedsASheet();
        theBestExchangeIsOfOneThatIsIn();
        noneMakesItSmaller();
        theSmallestPlaceIsTaken();
        ofSeveralTheSmallestNumber();
        anExchangeIsTheSmallerNumberFirst();
        withoutIsOfOneThatIsIn();
        judgesAre0To127();
        theCoupleIsLookedAtFirst();
        anEmptyAndAFullSetOfJudges();
        fragileNeedsAFinal();
        fragileIsLessThanAll();
        fragileIsTheLeastNumber();
        fragileLooksAtTheSetOfTheFirst();
        fragileIsOfThePanel();
        theChecksumStartsWith9107();
        theChecksumWrapsAround();
        theChecksumHoldsTheFinal();
        askingChangesNothing();
        Check.end();
    }

    // "if there is no such SHEET in a FINAL", "if no FINAL has begun"
    private static void whatWouldBeNeedsAFinal() {
        dueNothing(() -> Halls.hall(3, 3), "without an event");
        dueNothing(() -> Halls.opened(3, 3, 1), "before the final");
        dueNothing(() -> Halls.inRound(1, 1), "in a round");
        dueNothing(() -> Halls.behindACut(1), "behind a cut");
        dueNothing(() -> Halls.closed(3, 3), "behind the final");
    }

    private static void dueNothing(Refusal.State state, String when) {
        Refusal.due(state, Refusal.BOUNDS, "exchanged(0, 0, 0, 1, 0) " + when, x -> x.exchanged(0, 0, 0, 1, 0));
        Refusal.due(state, Refusal.BOUNDS, "bestExchange(0, 0, 0) " + when, x -> x.bestExchange(0, 0, 0));
        for (int judges : new int[] {-1, 0, 1, 127, 128}) {
            Refusal.due(state, Refusal.BOUNDS, "without(" + judges + ", 0) " + when, x -> x.without(judges, 0));
        }
    }

    // "IndexOutOfBoundsException if there is no such SHEET in a FINAL" (exchanged)
    private static void anExchangeNeedsASheet() {
        // Then the dance 0 is 1: 1 4, 2: 2 3, 3: 3 1, 4: 4 2, the places are 3 2 1 4 by it, 3 2 4 1 by the dance 1.
        Check.due("exchanged(2, 0, 1, 2, 1)", Halls.finalOfFour().exchanged(2, 0, 1, 2, 1), 8);
        Check.due("exchanged(2, 0, 1, 2, 2)", Halls.finalOfFour().exchanged(2, 0, 1, 2, 2), 2);
        int[][] none = {{1, 0}, {0, 1}, {2, 1}, {3, 0}, {3, 1}};
        for (int[] told : none) {
            Refusal.due(Halls::finalOfFour, Refusal.BOUNDS, "exchanged(" + told[0] + ", " + told[1] + ", 1, 2, 1)",
                    x -> x.exchanged(told[0], told[1], 1, 2, 1));
        }
        for (int judge : Refusal.outside(0, 2)) {
            Refusal.due(Halls::finalOfFour, Refusal.BOUNDS, "exchanged(" + judge + ", 0, 1, 2, 1)",
                    x -> x.exchanged(judge, 0, 1, 2, 1));
        }
        for (int dance : Refusal.outside(0, 1)) {
            Refusal.due(Halls::finalOfFour, Refusal.BOUNDS, "exchanged(0, " + dance + ", 1, 2, 1)",
                    x -> x.exchanged(0, dance, 1, 2, 1));
        }
        Refusal.State lost = () -> {
            SkateSheet x = Halls.finalOfFour();
            x.lose(2, 0);
            return x;
        };
        Refusal.due(lost, Refusal.BOUNDS, "exchanged(2, 0, 1, 2, 1) of a lost one", x -> x.exchanged(2, 0, 1, 2, 1));
        Refusal.due(lost, Refusal.BOUNDS, "bestExchange(2, 0, 1) of a lost one", x -> x.bestExchange(2, 0, 1));
    }

    // "IndexOutOfBoundsException if .. one of the COUPLES is not IN" (exchanged)
    private static void anExchangeIsOfThoseThatAreIn() {
        for (int couple : Refusal.outside(1, 4)) {
            Refusal.due(Halls::finalOfFour, Refusal.BOUNDS, "exchanged(0, 0, " + couple + ", 2, 1)",
                    x -> x.exchanged(0, 0, couple, 2, 1));
            Refusal.due(Halls::finalOfFour, Refusal.BOUNDS, "exchanged(0, 0, 2, " + couple + ", 1)",
                    x -> x.exchanged(0, 0, 2, couple, 1));
            Refusal.due(Halls::finalOfFour, Refusal.BOUNDS, "exchanged(0, 0, 2, 1, " + couple + ")",
                    x -> x.exchanged(0, 0, 2, 1, couple));
            Refusal.due(Halls::finalOfFour, Refusal.BOUNDS, "exchanged(0, 0, " + couple + ", " + couple + ", 1)",
                    x -> x.exchanged(0, 0, couple, couple, 1));
        }
        SkateSheet cut = Halls.behindACut(1);
        cut.begin();
        cut.sheet(0, 0, 4321);
        Check.refused(cut, "exchanged with one that is out", Refusal.BOUNDS, () -> cut.exchanged(0, 0, 0, 4, 0));
        Check.due("exchanged with one that is in", cut.exchanged(0, 0, 0, 3, 0), 8);
    }

    /** One sheet for the one dance places eight couples in their order: any exchange of marks is one of places. */
    private static SkateSheet eightInOrder() {
        SkateSheet x = Halls.inFinal(8, 7, 1);
        x.sheet(6, 0, 87654321);
        return x;
    }

    // The same couple twice is not refused: its mark is exchanged with itself.
    private static void exchangingWithItselfChangesNothing() {
        SkateSheet x = eightInOrder();
        for (int one = 0; one < 8; one++) {
            for (int couple = 0; couple < 8; couple++) {
                Check.due("exchanged(6, 0, one, one, couple)", x.exchanged(6, 0, one, one, couple), 2 * couple + 2);
            }
        }
        SkateSheet every = eightInOrder();
        for (int one = 0; one < 8; one++) {
            for (int other = 0; other < 8; other++) {
                Check.due("exchanged(6, 0, " + one + ", " + other + ", one)", every.exchanged(6, 0, one, other, one),
                        2 * other + 2);
                Check.due("exchanged(6, 0, " + one + ", " + other + ", other)",
                        every.exchanged(6, 0, one, other, other), 2 * one + 2);
            }
        }
    }

    // "if the MARKS of one and other were exchanged in that SHEET"
    private static void anExchangeIsOfThatSheetAlone() {
        SkateSheet x = Halls.inFinal(3, 3, 2);
        // Both dances by one sheet each; 0: 1 1, 1: 2 2, 2: 3 3.
        x.sheet(0, 0, 321);
        x.sheet(2, 1, 321);
        // With 0 and 1 exchanged in the one, they share by all: 2 1 and 1 2.
        Check.due("exchanged(0, 0, 0, 1, 0)", x.exchanged(0, 0, 0, 1, 0), 3);
        Check.due("exchanged(2, 1, 0, 1, 1)", x.exchanged(2, 1, 0, 1, 1), 3);
        // With 0 and 2 exchanged 0 has 3 1, 2 has 1 3, 1 has 2 2: 0 and 2 share, alike by all marks.
        Check.due("exchanged(0, 0, 0, 2, 2)", x.exchanged(0, 0, 0, 2, 2), 3);
        Check.due("exchanged(0, 0, 0, 2, 1)", x.exchanged(0, 0, 0, 2, 1), 6);
        Check.due("result(0, 0) as before", x.result(0, 0), 2);
        Check.due("votes(0, 0, 1) as before", x.votes(0, 0, 1), 1);
    }

    // "IndexOutOfBoundsException if there is no such SHEET in a FINAL" (bestExchange)
    private static void theBestExchangeNeedsASheet() {
        int[][] none = {{1, 0}, {0, 1}, {2, 1}, {3, 0}, {3, 1}};
        for (int[] told : none) {
            Refusal.due(Halls::finalOfFour, Refusal.BOUNDS, "bestExchange(" + told[0] + ", " + told[1] + ", 1)",
                    x -> x.bestExchange(told[0], told[1], 1));
        }
        for (int judge : Refusal.outside(0, 2)) {
            Refusal.due(Halls::finalOfFour, Refusal.BOUNDS, "bestExchange(" + judge + ", 0, 1)",
                    x -> x.bestExchange(judge, 0, 1));
        }
        for (int dance : Refusal.outside(0, 1)) {
            Refusal.due(Halls::finalOfFour, Refusal.BOUNDS, "bestExchange(0, " + dance + ", 1)",
                    x -> x.bestExchange(0, dance, 1));
        }
    }

    // "IndexOutOfBoundsException if .. the COUPLE is not IN" (bestExchange)
    private static void theBestExchangeIsOfOneThatIsIn() {
        for (int couple : Refusal.outside(1, 4)) {
            Refusal.due(Halls::finalOfFour, Refusal.BOUNDS, "bestExchange(0, 0, " + couple + ")",
                    x -> x.bestExchange(0, 0, couple));
        }
        SkateSheet cut = Halls.behindACut(1);
        cut.begin();
        cut.sheet(0, 0, 4321);
        Check.refused(cut, "bestExchange of one that is out", Refusal.BOUNDS, () -> cut.bestExchange(0, 0, 4));
        Check.due("bestExchange of the last one that is in", cut.bestExchange(0, 0, 3), 3);
    }

    // "NONE, if none makes it smaller than it is"
    private static void noneMakesItSmaller() {
        Check.due("bestExchange(6, 0, 0) of the first one", eightInOrder().bestExchange(6, 0, 0), -1);
        // Three sheets agree: with one exchange in one of them two still do.
        SkateSheet agreed = Halls.inFinal(3, 3, 1);
        Halls.tell(agreed, 0, 321, 321, 321);
        for (int judge = 0; judge < 3; judge++) {
            for (int couple = 0; couple < 3; couple++) {
                Check.due("bestExchange(.., 0, " + couple + ")", agreed.bestExchange(judge, 0, couple), -1);
            }
        }
        // A penalised one is the last one by any marks.
        SkateSheet penalised = eightInOrder();
        penalised.penalise(4, 0, true);
        Check.due("bestExchange(6, 0, 4) of a penalised one", penalised.bestExchange(6, 0, 4), -1);
    }

    // "that exchange in that SHEET by which exchanged() of couple is smallest"
    private static void theSmallestPlaceIsTaken() {
        SkateSheet x = Halls.inFinal(4, 3, 1);
        // 0 is the last one, and 1, 2 and 3 are third, second and first.
        x.sheet(0, 0, 1234);
        Check.due("bestExchange(0, 0, 0)", x.bestExchange(0, 0, 0), 3);
        Check.due("bestExchange(0, 0, 1)", x.bestExchange(0, 0, 1), 13);
        Check.due("bestExchange(0, 0, 2)", x.bestExchange(0, 0, 2), 23);
        Check.due("bestExchange(0, 0, 3)", x.bestExchange(0, 0, 3), -1);
        SkateSheet half = Halls.inFinal(3, 3, 1);
        // In halves 0: 3, 1: 3, 2: 6. With 0 and 1 exchanged in the first sheet: 0: 2 2, 1: 1 1.
        Halls.tell(half, 0, 321, 312);
        Check.due("result(1, 0)", half.result(1, 0), 3);
        Check.due("bestExchange(0, 0, 1) by a half", half.bestExchange(0, 0, 1), 1);
    }

    // "of several the smallest number"
    private static void ofSeveralTheSmallestNumber() {
        SkateSheet x = Halls.inFinal(4, 3, 1);
        // Judges 0 and 1 agree but for 1 and 2: 0: 1 1, 1: 2 3, 2: 3 2, 3: 4 4; 1 and 2 share in halves 5.
        Halls.tell(x, 0, 4321, 4231);
        Check.due("result(1, 0)", x.result(1, 0), 5);
        // In the sheet 0 by 01 they are 0: 2 1, 1: 1 3, 2: 3 2: 0 alone is of 2, and of 3 1 has the smaller sum.
        Check.due("exchanged(0, 0, 0, 1, 1)", x.exchanged(0, 0, 0, 1, 1), 4);
        // By 03 0 has 4 1, and of 3 there are 1 and 2 alike.
        Check.due("exchanged(0, 0, 0, 3, 1)", x.exchanged(0, 0, 0, 3, 1), 3);
        // By 23 2 has 4 2, so 1 is the only one of 3.
        Check.due("exchanged(0, 0, 2, 3, 1)", x.exchanged(0, 0, 2, 3, 1), 4);
        Check.due("bestExchange(0, 0, 1)", x.bestExchange(0, 0, 1), 3);
        // With 0 penalised, 2 becomes the first one by its mark (02) and by that of 1 (12) alike.
        SkateSheet without0 = eightInOrder();
        without0.penalise(0, 0, true);
        Check.due("result(2, 0)", without0.result(2, 0), 4);
        Check.due("exchanged(6, 0, 0, 2, 2)", without0.exchanged(6, 0, 0, 2, 2), 2);
        Check.due("exchanged(6, 0, 1, 2, 2)", without0.exchanged(6, 0, 1, 2, 2), 2);
        Check.due("bestExchange(6, 0, 2)", without0.bestExchange(6, 0, 2), 2);
        Check.due("bestExchange(6, 0, 7)", without0.bestExchange(6, 0, 7), 7);
        // With 7 penalised, 2 becomes the first one by 02 alone, and 6 by none but 06.
        SkateSheet without7 = eightInOrder();
        without7.penalise(7, 0, true);
        Check.due("bestExchange(6, 0, 2)", without7.bestExchange(6, 0, 2), 2);
        Check.due("bestExchange(6, 0, 6)", without7.bestExchange(6, 0, 6), 6);
        // With 7 the first one by its mark, but penalised, 2 (the third one) is the first one by 27 and by 02.
        without7.sheet(6, 0, 18765432);
        Check.due("exchanged(6, 0, 2, 7, 2)", without7.exchanged(6, 0, 2, 7, 2), 2);
        Check.due("bestExchange(6, 0, 2)", without7.bestExchange(6, 0, 2), 2);
        Check.due("bestExchange(6, 0, 1)", without7.bestExchange(6, 0, 1), 1);
    }

    // "10 times one, and other, with one less than other"
    private static void anExchangeIsTheSmallerNumberFirst() {
        SkateSheet x = Halls.hall(10, 3);
        x.open(0b1110000000, 1);
        x.begin();
        x.sheet(1, 0, 231);
        // 7 is the first one, 9 the second one, 8 the last one.
        Check.due("bestExchange(1, 0, 8)", x.bestExchange(1, 0, 8), 78);
        Check.due("bestExchange(1, 0, 9)", x.bestExchange(1, 0, 9), 79);
        x.sheet(1, 0, 213);
        Check.due("bestExchange(1, 0, 9) with 8 ahead", x.bestExchange(1, 0, 9), 89);
        Check.due("bestExchange(1, 0, 7) with 8 ahead", x.bestExchange(1, 0, 7), 78);
        SkateSheet eight = eightInOrder();
        for (int couple = 1; couple < 8; couple++) {
            Check.due("bestExchange(6, 0, " + couple + ")", eight.bestExchange(6, 0, couple), couple);
        }
    }

    // "IndexOutOfBoundsException if .. the COUPLE is not IN" (without)
    private static void withoutIsOfOneThatIsIn() {
        for (int couple : Refusal.outside(1, 4)) {
            Refusal.due(Halls::finalOfFour, Refusal.BOUNDS, "without(1, " + couple + ")",
                    x -> x.without(1, couple));
        }
        SkateSheet cut = Halls.behindACut(1);
        cut.begin();
        Check.refused(cut, "without(1, 4) of one that is out", Refusal.BOUNDS, () -> cut.without(1, 4));
        Check.due("without(1, 3) of one that is in", cut.without(1, 3), 5);
    }

    // "IllegalArgumentException if judges is not 0 to 127"
    private static void judgesAre0To127() {
        for (int judges : new int[] {-1, -127, -128, 128, 129, 255, 256, Integer.MIN_VALUE, Integer.MIN_VALUE + 1,
            Integer.MAX_VALUE}) {
            Refusal.due(Halls::finalOfFour, Refusal.ILLEGAL, "without(" + judges + ", 1)",
                    x -> x.without(judges, 1));
        }
        SkateSheet x = Halls.inFinal(3, 7, 1);
        Halls.tell(x, 0, 321, 321, 321, 321, 321, 321, 321);
        for (int judges = 0; judges <= 127; judges++) {
            Check.due("without(" + judges + ", 0)", x.without(judges, 0), judges == 127 ? 4 : 2);
        }
    }

    // "If several exceptions apply, the one that is named first is thrown." (without)
    private static void theCoupleIsLookedAtFirst() {
        for (int judges : new int[] {-1, 128, Integer.MIN_VALUE}) {
            Refusal.due(Halls::finalOfFour, Refusal.BOUNDS, "without(" + judges + ", 0)",
                    x -> x.without(judges, 0));
            Refusal.due(Halls::finalOfFour, Refusal.BOUNDS, "without(" + judges + ", 5)",
                    x -> x.without(judges, 5));
        }
    }

    // "if all SHEETS of these were LOST"
    private static void anEmptyAndAFullSetOfJudges() {
        SkateSheet x = Halls.finalOfFour();
        for (int couple = 1; couple <= 4; couple++) {
            Check.due("without(0, " + couple + ")", x.without(0, couple), x.result(couple, 0));
            // The judges 3 to 6 have no sheets, and but for 3 there are none of these.
            Check.due("without(120, " + couple + ")", x.without(120, couple), x.result(couple, 0));
            Check.due("without(127, " + couple + ")", x.without(127, couple), 5);
            Check.due("without(7, " + couple + ")", x.without(7, couple), 5);
        }
        SkateSheet both = Halls.inFinal(3, 3, 2);
        // The sheets of the judge 0 in both dances go, and those of the judge 2 stay.
        Halls.tell(both, 0, 321, 321, 123);
        Halls.tell(both, 1, 321, 321, 123);
        // In each dance 1 is of 2 by 321 and 123, and 0 and 2 share the places behind it.
        Check.due("without(1, 0)", both.without(1, 0), 5);
        Check.due("without(3, 0)", both.without(3, 0), 6);
        Check.due("without(4, 0)", both.without(4, 0), 2);
    }

    // "NONE, if there are no such (also if no FINAL has begun)"
    private static void fragileNeedsAFinal() {
        Check.due("fragile() of a new object", new SkateSheet().fragile(), -1);
        Check.due("fragile() without an event", Halls.hall(3, 3).fragile(), -1);
        Check.due("fragile() before the final", Halls.opened(3, 3, 1).fragile(), -1);
        Check.due("fragile() in a round", Halls.inRound(1, 1).fragile(), -1);
        Check.due("fragile() behind a cut", Halls.behindACut(1).fragile(), -1);
        Check.due("fragile() behind the final", Halls.closed(3, 3).fragile(), -1);
        Check.due("fragile() without a sheet", Halls.inFinal(8, 7, 5).fragile(), -1);
    }

    // "the least number of JUDGES of the PANEL (less than all)"
    private static void fragileIsLessThanAll() {
        for (int judges = 3; judges <= 7; judges++) {
            int panel = judges % 2 == 0 ? judges - 1 : judges;
            SkateSheet x = Halls.inFinal(3, judges, 1);
            for (int judge = 0; judge < panel; judge++) {
                x.sheet(judge, 0, 321);
            }
            // Only without all of them 0 is not the first one alone.
            Check.due("fragile() of " + panel + " that agree", x.fragile(), -1);
            // Without all but the last one, who has 1 ahead of 0, 1 is the first one.
            x.sheet(panel - 1, 0, 312);
            for (int judge = 0; judge < panel - 1; judge++) {
                x.sheet(judge, 0, 231);
            }
            Check.due("fragile() of " + panel + " with one against them", x.fragile(), panel - 1);
        }
    }

    // "the least number", from one on
    private static void fragileIsTheLeastNumber() {
        SkateSheet x = Halls.inFinal(3, 5, 1);
        // Two against two and one: 0 has three marks of 1, 1 two; without one of the three nobody has three of four.
        Halls.tell(x, 0, 321, 321, 321, 312, 312);
        Check.due("fragile() of three against two", x.fragile(), 1);
        // The only sheet is that of the judge 4; without it all share.
        SkateSheet only = Halls.inFinal(3, 5, 1);
        only.sheet(4, 0, 321);
        Check.due("fragile() of one sheet", only.fragile(), 1);
        SkateSheet first = Halls.inFinal(3, 5, 1);
        first.sheet(0, 0, 321);
        Check.due("fragile() of one sheet of the judge 0", first.fragile(), 1);
        SkateSheet two = Halls.inFinal(3, 5, 1);
        two.sheet(3, 0, 321);
        two.sheet(4, 0, 321);
        Check.due("fragile() of two sheets", two.fragile(), 2);
        SkateSheet four = Halls.inFinal(3, 5, 1);
        Halls.tell(four, 0, 321, 321, 321, 321);
        Check.due("fragile() of four sheets", four.fragile(), 4);
        // A judge gives sheets for all dances: without those of one the other dance decides.
        SkateSheet dances = Halls.inFinal(3, 3, 2);
        dances.sheet(0, 0, 321);
        dances.sheet(0, 1, 321);
        dances.sheet(1, 1, 321);
        Check.due("fragile() of two dances", dances.fragile(), 2);
    }

    // "the set of those with the smallest place over all DANCES would be another one"
    private static void fragileLooksAtTheSetOfTheFirst() {
        // 0 and 1 share the first place of two sheets; without one of these one of them has it alone.
        SkateSheet shared = Halls.inFinal(3, 3, 1);
        Halls.tell(shared, 0, 321, 312);
        Check.due("fragile() of a shared first place", shared.fragile(), 1);
        // 1 is the first one by two against one; without one of the two 0 shares it. So 1 stays in the set.
        SkateSheet joined = Halls.inFinal(3, 3, 1);
        Halls.tell(joined, 0, 312, 312, 321);
        Check.due("without(1, 0)", joined.without(1, 0), 3);
        Check.due("without(1, 1)", joined.without(1, 1), 3);
        Check.due("fragile() of one that is joined by another", joined.fragile(), 1);
        // 0 and 1 are penalised, so 2 is the first one till the sheets are none, and all share.
        SkateSheet penalised = Halls.inFinal(3, 3, 1);
        Halls.tell(penalised, 0, 321, 312);
        penalised.penalise(0, 0, true);
        penalised.penalise(1, 0, true);
        Check.due("fragile() behind penalties", penalised.fragile(), 2);
        // Those behind the first one change, but not the set of the first: 0 by all, 1 and 2 by turns.
        SkateSheet behind = Halls.inFinal(3, 3, 1);
        Halls.tell(behind, 0, 321, 231, 321);
        Check.due("without(5, 1) is another place", behind.without(5, 1), 6);
        Check.due("fragile() with changes behind the first", behind.fragile(), -1);
        // All share the first place by their sheets, as they would without: but one sheet alone places them.
        SkateSheet all = Halls.inFinal(3, 3, 1);
        Halls.tell(all, 0, 321, 132, 213);
        Check.due("fragile() of all that share", all.fragile(), 1);
        // All are penalised, so that they have one total; by rule 11 the marks place them, till there are none.
        SkateSheet none = Halls.inFinal(3, 3, 1);
        Halls.tell(none, 0, 321, 321, 321);
        for (int couple = 0; couple < 3; couple++) {
            none.penalise(couple, 0, true);
        }
        Check.due("fragile() of all penalised", none.fragile(), -1);
    }

    // "JUDGES of the PANEL": one that is not of it has no sheets, and does not make "all" one more.
    private static void fragileIsOfThePanel() {
        SkateSheet x = Halls.inFinal(3, 4, 1);
        Halls.tell(x, 0, 321, 321, 321);
        Check.due("fragile() of a panel of three of four", x.fragile(), -1);
        SkateSheet own = Halls.hall(3, 0);
        for (int club : new int[] {0, 1, 0, 2, 0, 3}) {
            own.judge(club);
        }
        own.open(7, 1);
        own.begin();
        own.sheet(1, 0, 231);
        own.sheet(3, 0, 231);
        own.sheet(5, 0, 312);
        Check.due("fragile() of the judges 1, 3 and 5", own.fragile(), 2);
    }

    // "A number d starts with 9107"
    private static void theChecksumStartsWith9107() {
        BigInteger d = BigInteger.valueOf(9107);
        for (int i = 0; i < 11; i++) {
            d = d.multiply(BigInteger.valueOf(31));
        }
        d = d.multiply(BigInteger.valueOf(31)).subtract(BigInteger.ONE);
        Check.due("digest() of a new object", new SkateSheet().digest(), d.longValue());
    }

    // "which wraps around as a 64-bit integer"
    private static void theChecksumWrapsAround() {
        BigInteger most = BigInteger.valueOf(Long.MAX_VALUE);
        int negative = 0;
        for (int couples = 0; couples <= 10; couples++) {
            SkateSheet x = Halls.hall(couples, 0);
            BigInteger d = BigInteger.valueOf(9107);
            int[] many = {couples, 0, 0, 0, 0, 0, 0, 0, 0, 0, 0};
            d = with(d, many);
            for (int couple = 0; couple < couples; couple++) {
                d = with(d, 0, 0, 0, 0, 0, 0, 0, -1, 0);
            }
            d = with(d, -1);
            Check.due("digest() of couples: " + couples, x.digest(), d.longValue());
            Check.due("it wraps around", d.abs().compareTo(most) > 0, true);
            negative += d.longValue() < 0 ? 1 : 0;
        }
        Check.due("some of them are below 0 by that", negative > 0 && negative < 11, true);
    }

    private static BigInteger with(BigInteger before, int... values) {
        BigInteger d = before;
        for (int v : values) {
            d = d.multiply(BigInteger.valueOf(31)).add(BigInteger.valueOf(v));
        }
        return d;
    }

    // "and, in a FINAL, if it is IN, result() of 0 to 2 and DANCE by DANCE placed() of 0 and 1, votes() of 1"
    private static void theChecksumHoldsTheFinal() {
        SkateSheet x = Halls.hall(4, 3);
        x.open(7, 1);
        x.round(2, 6);
        x.dance();
        x.cross(0, 0, 5);
        x.cross(1, 0, 6);
        x.cut();
        // All three go on: 2 has two crosses, 0 and 1 have one each.
        x.round(2, 2);
        x.dance();
        x.cross(2, 0, 5);
        x.cut();
        x.begin();
        x.sheet(0, 0, 12);
        x.sheet(1, 0, 12);
        x.penalise(2, 0, true);
        // 0 and 2 are in; both judges have 2 ahead, but it is penalised. 0 and 1 danced in both rounds in their heats.
        BigInteger d = BigInteger.valueOf(9107);
        d = with(d, 4, 3, 0, 1, 1, 2, 1, 0, 5, 3, 2);
        d = with(d, 0, 0, 0, 1, 1, 0, 1, 0, 0);
        d = with(d, 2, 9, 2, 2, 0, 0);
        d = with(d, 0, 0, 0, 1, 0, 2, 0, 1, 1);
        d = with(d, 0, 0, 0, 1, 1, 0, 1, 0, 2);
        d = with(d, 4, 9, 4, 4, 5, 2);
        d = with(d, 0, 0, 0, 0, 0, 0, 0, -1, 0);
        d = with(d, 1, 1, 0, 1);
        d = with(d, 1, 1, 0, 1);
        d = with(d, 1, 1, 0, 0);
        // Without both sheets all share.
        d = with(d, 2);
        Check.due("digest() in a final", x.digest(), d.longValue());
    }

    // "what would be (nothing is changed)"
    private static void askingChangesNothing() {
        SkateSheet x = Halls.finalOfFour();
        long before = x.digest();
        for (int couple = 1; couple <= 4; couple++) {
            x.exchanged(0, 0, 1, couple, 2);
            x.bestExchange(2, 0, couple);
            x.without(5, couple);
            x.without(127, couple);
            x.fragile();
            Check.due("digest() behind the questions", x.digest(), before);
        }
        Check.due("lose(0, 0)", x.lose(0, 0), 1);
        SkateSheet spared = Halls.finalOfFour();
        spared.lose(0, 0);
        Check.due("digest() of the same without questions", x.digest(), spared.digest());
        x.close();
        spared.close();
        Check.due("digest() behind both closes", x.digest(), spared.digest());
    }
}
