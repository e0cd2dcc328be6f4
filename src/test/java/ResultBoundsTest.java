/** The sentences of "4. Over all dances" and of the promises 13, 19 and 21 that name a boundary, a test each. */
public final class ResultBoundsTest {
    private ResultBoundsTest() {
    }

    public static void main(String[] args) {
        theTotalIsTheSumOfAllPlaces();
        theSmallerTotalIsAheadByAHalf();
        aTotalOfItsOwnHasTheReason9();
        moreDancesOfROrBetterAreAhead();
        aPlaceOfRIsROrBetter();
        aHalfBehindRIsNot();
        theSmallerSumOfThesePlacesIsAhead();
        theLastOneLeftHasTheReason10();
        moreMarksOfROrBetterAreAhead();
        theSmallerSumOfTheseMarksIsAhead();
        theMarksOfRAnd1ComeNext();
        thePlacesBehindAreGivenByRule10Anew();
        thoseAlikeShareAndTheRestGoesOn();
        whoIsBehindByRule11GoesOnToo();
        allMayShareOverAll();
        marksOfThePenalisedCountToo();
        resultsAreOfAFinal();
        resultsAreOfWhoIsIn();
        resultsAre0To2();
        pointsOfTheFirstAndTheLast();
        pointsOfThoseThatShare();
        pointsOfTheRoundLess1();
        pointsAgeByTheEventsClosedBehind();
        theThreeGreatestCount();
        whoWasNotEnteredHas0();
        aStandingOf60RaisesTheLevel();
        aLevelIs3AtMost();
        aLevelRisesOfTheEnteredAlone();
        driftIsOfClosedFinals();
        driftIsWithoutSigns();
        theMeanStandingIsNotRounded();
        Check.end();
    }

    private static void dueResult(SkateSheet x, int couple, int place, int reason, int total) {
        Check.due("result(" + couple + ", 0)", x.result(couple, 0), place);
        Check.due("result(" + couple + ", 1)", x.result(couple, 1), reason);
        Check.due("result(" + couple + ", 2)", x.result(couple, 2), total);
    }

    /** A final with one sheet for each dance, so that its marks are the places. */
    private static SkateSheet finalBy(int couples, int... sheets) {
        SkateSheet x = Halls.inFinal(couples, 3, sheets.length);
        for (int dance = 0; dance < sheets.length; dance++) {
            x.sheet(dance % 3, dance, sheets[dance]);
        }
        return x;
    }

    // "The TOTAL of one that is IN is the sum of its places in all DANCES."
    private static void theTotalIsTheSumOfAllPlaces() {
        for (int dances = 1; dances <= 5; dances++) {
            SkateSheet x = Halls.inFinal(8, 7, dances);
            for (int dance = 0; dance < dances; dance++) {
                x.sheet(6, dance, 87654321);
            }
            for (int couple = 0; couple < 8; couple++) {
                dueResult(x, couple, 2 * couple + 2, 9, dances * (2 * couple + 2));
            }
        }
        // A dance without a sheet counts too: all share it.
        SkateSheet x = Halls.inFinal(3, 3, 2);
        x.sheet(0, 1, 321);
        dueResult(x, 0, 2, 9, 4 + 2);
        dueResult(x, 2, 6, 9, 4 + 6);
    }

    // "The smaller TOTAL is ahead."
    private static void theSmallerTotalIsAheadByAHalf() {
        SkateSheet x = Halls.inFinal(3, 3, 2);
        // In halves 0: 3 4, 1: 3 6, 2: 6 2.
        Halls.tell(x, 0, 321, 312);
        Halls.tell(x, 1, 132);
        dueResult(x, 0, 2, 9, 7);
        dueResult(x, 2, 4, 9, 8);
        dueResult(x, 1, 6, 9, 9);
    }

    // "9 with a TOTAL of its own", "(two or more)"
    private static void aTotalOfItsOwnHasTheReason9() {
        // 0: 1 3, 1: 3 1, 2: 2 4, 3: 4 2: two pairs of one total each.
        SkateSheet pairs = finalBy(4, 4231, 2413);
        dueResult(pairs, 0, 3, 12, 8);
        dueResult(pairs, 1, 3, 12, 8);
        dueResult(pairs, 2, 7, 12, 12);
        dueResult(pairs, 3, 7, 12, 12);
        // 0: 1 2, 1: 2 1, 2: 3 4, 3: 4 3 with a third dance: 4 1 2 3.
        SkateSheet own = finalBy(4, 4321, 3412, 3214);
        dueResult(own, 1, 2, 9, 8);
        dueResult(own, 0, 4, 9, 14);
        dueResult(own, 2, 6, 9, 18);
        dueResult(own, 3, 8, 9, 20);
    }

    // "Rule 10: who has more DANCES with a place of r or better is ahead"
    private static void moreDancesOfROrBetterAreAhead() {
        // 0: 1 1 4, 1: 2 3 1: with r = 1 two against one, though 1 has the better last one.
        SkateSheet x = finalBy(4, 4321, 4231, 3214);
        dueResult(x, 0, 2, 10, 12);
        dueResult(x, 1, 4, 10, 12);
        dueResult(x, 2, 6, 9, 14);
        dueResult(x, 3, 8, 9, 22);
    }

    // "a place of r or better", with r being the next place
    private static void aPlaceOfRIsROrBetter() {
        // 0: 1 2, 1: 4 1, 2: 3 3, 3: 2 4. With r = 3 two of 2 count, and one of 3.
        SkateSheet x = finalBy(4, 2341, 4312);
        dueResult(x, 0, 2, 9, 6);
        dueResult(x, 1, 4, 9, 10);
        dueResult(x, 2, 6, 10, 12);
        dueResult(x, 3, 8, 10, 12);
    }

    // The same in halves: a shared first and second place is not of 1 or better.
    private static void aHalfBehindRIsNot() {
        SkateSheet x = Halls.inFinal(4, 3, 3);
        // In halves 0: 3 3 8, 1: 6 6 2, 2: 3 8 4, 3: 8 3 6.
        Halls.tell(x, 0, 4231, 4132);
        Halls.tell(x, 1, 2431, 1432);
        Halls.tell(x, 2, 3214);
        dueResult(x, 1, 2, 10, 14);
        dueResult(x, 0, 4, 10, 14);
        dueResult(x, 2, 6, 9, 15);
        dueResult(x, 3, 8, 9, 17);
    }

    // "with as many, who has the smaller sum of these places"
    private static void theSmallerSumOfThesePlacesIsAhead() {
        // 0: 1 4, 1: 2 3, 2: 3 1, 3: 4 2. With r = 2 0 and 1 have one each, of 1 and of 2.
        SkateSheet x = finalBy(4, 4321, 2134);
        dueResult(x, 2, 2, 9, 8);
        dueResult(x, 0, 4, 10, 10);
        dueResult(x, 1, 6, 10, 10);
        dueResult(x, 3, 8, 9, 12);
    }

    // "until one is left", "otherwise 10 (also the one that is left as the last one)"
    private static void theLastOneLeftHasTheReason10() {
        // 0: 1 1 4 4, 1: 2 2 3 3, 2: 3 4 1 2, 3: 4 3 2 1, all with the total 10. 0 is ahead with two of 1. With r = 2
        // the others have two each; 2 and 3 have the smaller sum and are alike by all marks. 1 is left.
        SkateSheet x = finalBy(4, 4321, 3421, 2134, 1234);
        dueResult(x, 0, 2, 10, 20);
        dueResult(x, 2, 5, 12, 20);
        dueResult(x, 3, 5, 12, 20);
        dueResult(x, 1, 8, 10, 20);
    }

    /** Four couples; 0 is first and 3 is last, 1 is second and third, 2 third and second, by these third sheets. */
    private static SkateSheet tiedForTheSecond(int first, int second) {
        SkateSheet x = Halls.inFinal(4, 3, 2);
        Halls.tell(x, 0, 4321, 4321, first);
        Halls.tell(x, 1, 4231, 4231, second);
        for (int dance = 0; dance < 2; dance++) {
            Check.due("placed(0, " + dance + ", 0)", x.placed(0, dance, 0), 2);
            Check.due("placed(1, " + dance + ", 0)", x.placed(1, dance, 0), 4 + 2 * dance);
            Check.due("placed(2, " + dance + ", 0)", x.placed(2, dance, 0), 6 - 2 * dance);
        }
        return x;
    }

    // "Rule 11 ..: who has more MARKS of r or better"
    private static void moreMarksOfROrBetterAreAhead() {
        // 1: 2 2 4 and 3 3 3, 2: 3 3 2 and 2 2 4: of 2 or better two against three.
        SkateSheet x = tiedForTheSecond(3241, 2431);
        dueResult(x, 0, 2, 9, 4);
        dueResult(x, 2, 4, 11, 10);
        dueResult(x, 1, 6, 10, 10);
        dueResult(x, 3, 8, 9, 16);
    }

    // "with as many, the smaller sum of these"
    private static void theSmallerSumOfTheseMarksIsAhead() {
        // 1: 2 2 4 and 3 3 2, 2: 3 3 1 and 2 2 4: of 2 or better three each, with the sums 6 and 5.
        SkateSheet x = tiedForTheSecond(3142, 3421);
        dueResult(x, 2, 4, 11, 10);
        dueResult(x, 1, 6, 10, 10);
    }

    // "then the same with r and 1, up to n"
    private static void theMarksOfRAnd1ComeNext() {
        // 1: 2 2 4 and 3 3 2, 2: 3 3 2 and 2 2 3: of 2 three each with the sum 6, of 3 five against six.
        SkateSheet x = tiedForTheSecond(3241, 4321);
        dueResult(x, 2, 4, 11, 10);
        dueResult(x, 1, 6, 10, 10);
        // 1: 2 2 4 and 3 3 2, 2: 3 3 2 and 2 2 4: alike up to n.
        SkateSheet alike = tiedForTheSecond(3241, 3421);
        dueResult(alike, 1, 5, 12, 10);
        dueResult(alike, 2, 5, 12, 10);
        // As many as there can be. 0: 1 1 7 and 2 2 7, 1: 2 2 8 and 1 1 8: up to 6 they are alike.
        SkateSheet eight = Halls.inFinal(8, 3, 2);
        Halls.tell(eight, 0, 87654321, 87654321, 65432187);
        Halls.tell(eight, 1, 87654312, 87654312, 65432187);
        dueResult(eight, 0, 2, 11, 6);
        dueResult(eight, 1, 4, 10, 6);
        dueResult(eight, 7, 16, 9, 32);
    }

    // "If one is ahead of these, it has the place r, and all others (also those behind by rule 10) go on with r and 1."
    private static void thePlacesBehindAreGivenByRule10Anew() {
        SkateSheet x = Halls.inFinal(3, 3, 2);
        // Places 0: 3 (penalised) 1, 1: 1 3, 2: 2 2, all with the total 4. With r = 1 0 and 1 have one each, 2 has
        // none; of all marks 0 has four of 1, 1 has two. Then, with r = 2, 2 has two and 1 has one.
        Halls.tell(x, 0, 321, 321, 213);
        Halls.tell(x, 1, 231, 231, 312);
        x.penalise(0, 0, true);
        dueResult(x, 0, 2, 11, 8);
        dueResult(x, 2, 4, 10, 8);
        dueResult(x, 1, 6, 10, 8);
    }

    // "Otherwise those k that are alike SHARE r and the next ones, and the rest goes on behind."
    private static void thoseAlikeShareAndTheRestGoesOn() {
        // 0: 1 4, 1: 4 1, 2: 2 3, 3: 3 2, all with the total 5.
        SkateSheet x = finalBy(4, 3241, 2314);
        dueResult(x, 0, 3, 12, 10);
        dueResult(x, 1, 3, 12, 10);
        dueResult(x, 2, 7, 12, 10);
        dueResult(x, 3, 7, 12, 10);
    }

    // The same for one that rule 10 had ahead as much as those that share.
    private static void whoIsBehindByRule11GoesOnToo() {
        SkateSheet x = Halls.inFinal(4, 3, 3);
        // Places 0: 1 2 3, 1: 2 3 1, 2: 3 1 2. Marks of 1: three of 0, three of 1, two of 2; 0 and 1 are alike.
        Halls.tell(x, 0, 4321, 4321, 4321);
        Halls.tell(x, 1, 4132, 4132, 1432);
        Halls.tell(x, 2, 4213, 4213, 4213);
        dueResult(x, 0, 3, 12, 12);
        dueResult(x, 1, 3, 12, 12);
        dueResult(x, 2, 6, 10, 12);
        dueResult(x, 3, 8, 9, 24);
    }

    // "those k that are alike SHARE", k being all that are IN
    private static void allMayShareOverAll() {
        for (int number = 3; number <= 8; number++) {
            SkateSheet x = Halls.inFinal(number, 3, 5);
            for (int couple = 0; couple < number; couple++) {
                dueResult(x, couple, number + 1, 12, 5 * (number + 1));
            }
        }
        // 0: 1 2 3, 1: 2 3 1, 2: 3 1 2.
        SkateSheet x = finalBy(3, 321, 132, 213);
        for (int couple = 0; couple < 3; couple++) {
            dueResult(x, couple, 4, 12, 12);
        }
    }

    // "by all their MARKS of all DANCES (PENALISED or not)"
    private static void marksOfThePenalisedCountToo() {
        SkateSheet x = Halls.inFinal(3, 3, 2);
        // 0 and 1 are penalised in both dances, and share the last places.
        Halls.tell(x, 0, 321, 321);
        Halls.tell(x, 1, 321, 312);
        for (int dance = 0; dance < 2; dance++) {
            x.penalise(0, dance, true);
            x.penalise(1, dance, true);
        }
        // 0: 1 1 and 1 2, 1: 2 2 and 2 1: of 2 or better four each, with the sums 5 and 7.
        dueResult(x, 2, 2, 9, 4);
        dueResult(x, 0, 4, 11, 10);
        dueResult(x, 1, 6, 10, 10);
    }

    // "IndexOutOfBoundsException if no FINAL has begun" (a result)
    private static void resultsAreOfAFinal() {
        for (int told : new int[] {-1, 0, 2, 3}) {
            int what = told;
            String text = "result(0, " + what + ")";
            Refusal.Call call = x -> x.result(0, what);
            Refusal.due(() -> Halls.hall(3, 3), Refusal.BOUNDS, text + " without an event", call);
            Refusal.due(() -> Halls.opened(3, 3, 1), Refusal.BOUNDS, text + " before the final", call);
            Refusal.due(() -> Halls.inRound(1, 1), Refusal.BOUNDS, text + " in a round", call);
            Refusal.due(() -> Halls.behindACut(1), Refusal.BOUNDS, text + " behind a cut", call);
            Refusal.due(() -> Halls.closed(3, 3), Refusal.BOUNDS, text + " behind the final", call);
        }
    }

    // "IndexOutOfBoundsException if .. the COUPLE is not IN" (a result), and that is looked at first
    private static void resultsAreOfWhoIsIn() {
        for (int told : new int[] {-1, 0, 2, 3}) {
            int what = told;
            for (int couple : Refusal.outside(1, 4)) {
                Refusal.due(Halls::finalOfFour, Refusal.BOUNDS, "result(" + couple + ", " + what + ")",
                        x -> x.result(couple, what));
            }
        }
        SkateSheet cut = Halls.behindACut(1);
        cut.begin();
        Check.refused(cut, "result(4, 0) of one that is out", Refusal.BOUNDS, () -> cut.result(4, 0));
        Check.due("result(3, 0) of one that is in", cut.result(3, 0), 5);
    }

    // "IllegalArgumentException if what is not 0 to 2"
    private static void resultsAre0To2() {
        for (int what : Refusal.outside(0, 2)) {
            Refusal.due(Halls::finalOfFour, Refusal.ILLEGAL, "result(1, " + what + ")", x -> x.result(1, what));
        }
        dueResult(finalBy(3, 321), 2, 6, 9, 6);
    }

    private static void dueStandings(SkateSheet x, int... standings) {
        for (int couple = 0; couple < standings.length; couple++) {
            Check.due("ofCouple(" + couple + ", 2)", x.ofCouple(couple, 2), standings[couple]);
        }
    }

    // "POINTS: 2 times how many were ENTERED, and 2, less its place in halves"
    private static void pointsOfTheFirstAndTheLast() {
        dueStandings(Halls.closed(3, 3), 5 * 6, 5 * 4, 5 * 2);
        dueStandings(Halls.closed(8, 3), 80, 70, 60, 50, 40, 30, 20, 10);
        // Ten are entered, eight of them are in.
        SkateSheet x = Halls.opened(10, 3, 1);
        x.round(8, 6);
        x.dance();
        x.cross(0, 0, 255);
        x.cut();
        x.begin();
        x.sheet(0, 0, 87654321);
        dueStandings(x, 0, 0, 0, 0, 0, 0, 0, 0, 0, 0);
        x.close();
        dueStandings(x, 100, 90, 80, 70, 60, 50, 40, 30, 0, 0);
    }

    // The same with a place that is shared, and so no full one.
    private static void pointsOfThoseThatShare() {
        SkateSheet x = Halls.inFinal(4, 3, 1);
        Halls.tell(x, 0, 4321, 3421);
        x.close();
        dueStandings(x, 5 * 8, 5 * 6, 5 * 3, 5 * 3);
        SkateSheet all = Halls.inFinal(4, 3, 1);
        all.close();
        dueStandings(all, 25, 25, 25, 25);
    }

    // "one that is OUT as many as the number of its ROUND, less 1"
    private static void pointsOfTheRoundLess1() {
        SkateSheet x = Halls.opened(6, 3, 1);
        for (int quota = 5; quota >= 2; quota--) {
            x.round(quota, 6);
            x.dance();
            x.cross(0, 0, (1 << quota) - 1);
            x.cut();
        }
        x.begin();
        x.close();
        // Two share the first place: 14 less 3; the others were out in the rounds 4, 3, 2 and 1.
        dueStandings(x, 55, 55, 15, 10, 5, 0);
    }

    // "POINTS of one times (5 less how many EVENTS were CLOSED behind it)", "of the last 5 EVENTS"
    private static void pointsAgeByTheEventsClosedBehind() {
        SkateSheet x = Halls.closed(4, 3);
        int[] worth = {40, 32, 24, 16, 8, 0, 0};
        for (int behind = 0; behind < worth.length; behind++) {
            Check.due("ofCouple(0, 2) with events behind: " + behind, x.ofCouple(0, 2), worth[behind]);
            Halls.hold(x, 14, 0);
        }
    }

    // "of these the 3 greatest, in sum"
    private static void theThreeGreatestCount() {
        SkateSheet x = Halls.hall(8, 3);
        int[] entered = {255, 31, 7, 7};
        int[] sheets = {87654321, 54321, 321, 123};
        // What 0 wins: 16, 10, 6 and 2.
        int[] want = {80, 50 + 64, 30 + 40 + 48, 24 + 30 + 32};
        for (int event = 0; event < want.length; event++) {
            Halls.hold(x, entered[event], sheets[event]);
            Check.due("ofCouple(0, 2) behind the event " + event, x.ofCouple(0, 2), want[event]);
        }
        int[] aged = {18 + 20 + 16, 6 + 12 + 10, 4 + 6, 2, 0, 0};
        for (int event = 0; event < aged.length; event++) {
            Halls.hold(x, 14, 0);
            Check.due("ofCouple(0, 2) with events of others: " + (event + 1), x.ofCouple(0, 2), aged[event]);
        }
        SkateSheet same = Halls.hall(3, 3);
        int[] six = {30, 54, 72, 72, 72, 72, 72};
        for (int event = 0; event < six.length; event++) {
            Halls.hold(same, 7, 321);
            Check.due("ofCouple(0, 2) behind six points each, " + event, same.ofCouple(0, 2), six[event]);
        }
    }

    // "(0 for one in which it was not ENTERED)"
    private static void whoWasNotEnteredHas0() {
        SkateSheet x = Halls.hall(6, 3);
        Halls.hold(x, 0b111000, 321);
        dueStandings(x, 0, 0, 0, 30, 20, 10);
        Halls.hold(x, 0b000111, 321);
        dueStandings(x, 30, 20, 10, 24, 16, 8);
        Halls.hold(x, 0b001011, 321);
        dueStandings(x, 54, 36, 8, 10 + 18, 12, 6);
    }

    // "With a STANDING of 60 or more then the LEVEL .. is 1 more"
    private static void aStandingOf60RaisesTheLevel() {
        SkateSheet x = Halls.hall(5, 3);
        // What they win: 6, 8, 10, 4, 2.
        Halls.hold(x, 31, 54123);
        dueStandings(x, 30, 40, 50, 20, 10);
        for (int couple = 0; couple < 5; couple++) {
            Check.due("ofCouple(" + couple + ", 1)", x.ofCouple(couple, 1), 0);
        }
        x.open(15, 1);
        x.begin();
        // And then 7, 7, 4 and 2.
        Halls.tell(x, 0, 4321, 4312);
        x.close();
        dueStandings(x, 59, 67, 60, 26, 8);
        int[] levels = {0, 1, 1, 0, 0};
        for (int couple = 0; couple < 5; couple++) {
            Check.due("ofCouple(" + couple + ", 1)", x.ofCouple(couple, 1), levels[couple]);
        }
    }

    // "(3 at most)", "a LEVEL (0 to 3)"
    private static void aLevelIs3AtMost() {
        SkateSheet x = Halls.hall(8, 3);
        int[] levels = {1, 2, 3, 3, 3, 3};
        for (int event = 0; event < levels.length; event++) {
            Halls.hold(x, 255, 87654321);
            Check.due("ofCouple(0, 1) behind the event " + event, x.ofCouple(0, 1), levels[event]);
        }
    }

    // "the LEVEL of one that was ENTERED"
    private static void aLevelRisesOfTheEnteredAlone() {
        SkateSheet x = Halls.closed(8, 3);
        Halls.hold(x, 14, 0);
        dueStandings(x, 64, 76);
        Check.due("ofCouple(0, 1) of one that was not", x.ofCouple(0, 1), 1);
        Check.due("ofCouple(1, 1) of one that was", x.ofCouple(1, 1), 2);
        // Who is out was entered too.
        x.open(15, 1);
        x.round(3, 6);
        x.dance();
        x.cross(0, 0, 0b1101);
        x.cut();
        x.begin();
        x.close();
        Check.due("ofCouple(1, 2)", x.ofCouple(1, 2), 7 * 2 * 3 + 4 * 4);
        Check.due("ofCouple(1, 1) below 60", x.ofCouple(1, 1), 2);
        SkateSheet out = Halls.closed(8, 3);
        out.open(15, 1);
        out.round(3, 6);
        out.dance();
        out.cross(0, 0, 0b1110);
        out.cut();
        out.begin();
        out.close();
        Check.due("ofCouple(0, 2) of one that is out", out.ofCouple(0, 2), 64);
        Check.due("ofCouple(0, 1) of one that is out", out.ofCouple(0, 1), 2);
    }

    // "DRIFT of a JUDGE: over all SHEETS of FINALS that were CLOSED"
    private static void driftIsOfClosedFinals() {
        SkateSheet x = Halls.hall(3, 4);
        int[] drifts = {2, 2, 0, 0};
        for (int event = 1; event <= 2; event++) {
            x.open(7, 2);
            x.begin();
            // Both are 1 from the shared place 3 of 0 and of 1, in halves; a lost sheet is none.
            Halls.tell(x, 1, 321, 312, 123);
            x.lose(2, 1);
            for (int judge = 0; judge < 4; judge++) {
                Check.due("ofJudge(" + judge + ", 2) before the close", x.ofJudge(judge, 2),
                        (event - 1) * drifts[judge]);
            }
            x.close();
            for (int judge = 0; judge < 4; judge++) {
                Check.due("ofJudge(" + judge + ", 2)", x.ofJudge(judge, 2), event * drifts[judge]);
            }
        }
    }

    // "the differences of 2 times the MARK and the place in that DANCE, in halves, without signs, in sum"
    private static void driftIsWithoutSigns() {
        SkateSheet x = Halls.hall(8, 7);
        for (int event = 1; event <= 2; event++) {
            x.open(255, 5);
            x.begin();
            for (int dance = 0; dance < 5; dance++) {
                Halls.tell(x, dance, 87654321, 87654321, 87654321, 87654321, 87654321, 87654321, 12345678);
            }
            x.close();
            Check.due("ofJudge(0, 2)", x.ofJudge(0, 2), 0);
            // 14 10 6 2 2 6 10 14 in each dance.
            Check.due("ofJudge(6, 2)", x.ofJudge(6, 2), event * 5 * 64);
        }
        // A penalised one was in too: its mark is 1, its place 3.
        SkateSheet penalised = Halls.inFinal(3, 3, 1);
        penalised.sheet(2, 0, 321);
        penalised.penalise(0, 0, true);
        penalised.close();
        Check.due("ofJudge(2, 2)", penalised.ofJudge(2, 2), 4 + 2 + 2);
    }

    // "Returns the mean STANDING of all COUPLES, not rounded; 0 without any."
    private static void theMeanStandingIsNotRounded() {
        Check.due("meanStanding() without any", new SkateSheet().meanStanding(), 0.0);
        Check.due("meanStanding() of one", Halls.hall(1, 0).meanStanding(), 0.0);
        Check.due("meanStanding() before an event", Halls.hall(7, 3).meanStanding(), 0.0);
        SkateSheet x = Halls.hall(7, 3);
        Halls.hold(x, 7, 321);
        Check.due("meanStanding() of seven", x.meanStanding(), 60.0 / 7);
        x.couple(0);
        Check.due("meanStanding() of eight", x.meanStanding(), 7.5);
        x.couple(0);
        Check.due("meanStanding() of nine", x.meanStanding(), 60.0 / 9);
    }
}
