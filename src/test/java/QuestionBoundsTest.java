/** The sentences of the promises 14 to 18 and 20 that name a boundary, a test each. */
public final class QuestionBoundsTest {
    private QuestionBoundsTest() {
    }

    public static void main(String[] args) {
        oneAsksOfCouplesThereAre();
        oneAsks0To7OfACouple();
        theCoupleIsLookedAtFirst();
        aCoupleWithoutAnEvent();
        aCoupleInAnEvent();
        theRoundInWhichItWasOut();
        itsCrossesInTheLatestRound();
        itsHeatInTheDanceThatWasDancedLast();
        meetingsAreOfCouplesThereAre();
        nobodyMeetsItself();
        oneAsksOfJudgesThereAre();
        oneAsks0To3OfAJudge();
        theJudgeIsLookedAtFirst();
        aJudgeIsOfThePanelThatIsOpen();
        sheetsOfAJudgeAreOfTheFinal();
        votesAndPlacesAreOfAFinal();
        votesAndPlacesAreOfWhoIsIn();
        votesAndPlacesAreOfADanceOfTheEvent();
        pIs1ToHowManyAreIn();
        aPlaceAndAReasonAreAsked();
        oneAsks0To10OfAll();
        manyWithoutAnEvent();
        manyInAnEvent();
        Check.end();
    }

    // "IndexOutOfBoundsException if there is no such COUPLE" (of a couple)
    private static void oneAsksOfCouplesThereAre() {
        for (int number = 0; number <= 10; number++) {
            int couples = number;
            for (int couple = 0; couple < couples; couple++) {
                Check.due("ofCouple(" + couple + ", 0) of " + number, Halls.hall(couples, 0).ofCouple(couple, 0), 0);
            }
            for (int couple : Refusal.outside(0, couples - 1)) {
                Refusal.due(() -> Halls.hall(couples, 0), Refusal.BOUNDS, "ofCouple(" + couple + ", 0) of " + number,
                        x -> x.ofCouple(couple, 0));
            }
        }
    }

    // "IllegalArgumentException if what is not 0 to 7"
    private static void oneAsks0To7OfACouple() {
        int[] fresh = {0, 0, 0, 0, 0, 0, 0, -1};
        for (int what = 0; what <= 7; what++) {
            Check.due("ofCouple(2, " + what + ")", Halls.hall(3, 0).ofCouple(2, what), fresh[what]);
        }
        for (int what : Refusal.outside(0, 7)) {
            Refusal.due(() -> Halls.hall(3, 0), Refusal.ILLEGAL, "ofCouple(2, " + what + ")",
                    x -> x.ofCouple(2, what));
            Refusal.due(Halls::finalOfFour, Refusal.ILLEGAL, "ofCouple(0, " + what + ") in a final",
                    x -> x.ofCouple(0, what));
        }
    }

    // "If several exceptions apply, the one that is named first is thrown." (of a couple)
    private static void theCoupleIsLookedAtFirst() {
        for (int what : Refusal.outside(0, 7)) {
            Refusal.due(() -> Halls.hall(3, 0), Refusal.BOUNDS, "ofCouple(3, " + what + ")",
                    x -> x.ofCouple(3, what));
            Refusal.due(() -> Halls.hall(3, 0), Refusal.BOUNDS, "ofCouple(-1, " + what + ")",
                    x -> x.ofCouple(-1, what));
        }
    }

    private static void dueOfCouple(SkateSheet x, int couple, int... from3) {
        for (int what = 3; what <= 7; what++) {
            Check.due("ofCouple(" + couple + ", " + what + ")", x.ofCouple(couple, what), from3[what - 3]);
        }
    }

    // "(3 to 7: 0, 0, 0, 0, NONE without an EVENT)"
    private static void aCoupleWithoutAnEvent() {
        dueOfCouple(Halls.hall(6, 3), 5, 0, 0, 0, 0, -1);
        SkateSheet x = Halls.behindACut(2);
        x.begin();
        dueOfCouple(x, 0, 1, 1, 0, 2, 0);
        dueOfCouple(x, 5, 1, 0, 1, 0, x.ofCouple(5, 7));
        x.close();
        for (int couple = 0; couple < 6; couple++) {
            dueOfCouple(x, couple, 0, 0, 0, 0, -1);
        }
        x.open(63, 2);
        for (int couple = 0; couple < 6; couple++) {
            dueOfCouple(x, couple, 1, 1, 0, 0, -1);
        }
    }

    // "3 1 if it is ENTERED in the EVENT that is open, otherwise 0, 4 1 if it is IN, otherwise 0"
    private static void aCoupleInAnEvent() {
        SkateSheet x = Halls.hall(10, 3);
        x.open(0b1000001101, 1);
        dueOfCouple(x, 0, 1, 1, 0, 0, -1);
        dueOfCouple(x, 1, 0, 0, 0, 0, -1);
        dueOfCouple(x, 9, 1, 1, 0, 0, -1);
        x.round(3, 2);
        x.dance();
        x.cross(0, 0, 0b1101);
        x.cut();
        dueOfCouple(x, 9, 1, 0, 1, 0, 1);
        dueOfCouple(x, 3, 1, 1, 0, 1, 1);
        dueOfCouple(x, 1, 0, 0, 0, 0, -1);
    }

    // "5 the ROUND in which it was OUT (0 if none)"
    private static void theRoundInWhichItWasOut() {
        SkateSheet x = Halls.opened(6, 3, 1);
        for (int round = 1; round <= 4; round++) {
            Check.due("ofCouple(.., 5) before the round", x.ofCouple(6 - round, 5), 0);
            x.round(6 - round, 6);
            x.dance();
            x.cross(0, 0, (1 << 6 - round) - 1);
            Check.due("ofCouple(.., 5) before the cut", x.ofCouple(6 - round, 5), 0);
            x.cut();
            Check.due("ofCouple(.., 5) behind it", x.ofCouple(6 - round, 5), round);
        }
        int[] outIn = {0, 0, 4, 3, 2, 1};
        for (int couple = 0; couple < 6; couple++) {
            Check.due("ofCouple(" + couple + ", 5)", x.ofCouple(couple, 5), outIn[couple]);
        }
    }

    // "6 its CROSSES in the latest ROUND of that EVENT (0 if none)"
    private static void itsCrossesInTheLatestRound() {
        SkateSheet x = Halls.opened(7, 3, 2);
        Check.due("ofCouple(0, 6) without a round", x.ofCouple(0, 6), 0);
        x.round(3, 6);
        Check.due("ofCouple(0, 6) before a dance", x.ofCouple(0, 6), 0);
        x.dance();
        x.cross(0, 0, 7);
        x.cross(1, 0, 11);
        x.dance();
        x.cross(0, 1, 7);
        int[] crosses = {3, 3, 2, 1, 0, 0, 0};
        for (int when = 0; when < 2; when++) {
            for (int couple = 0; couple < 7; couple++) {
                Check.due("ofCouple(" + couple + ", 6)", x.ofCouple(couple, 6), crosses[couple]);
            }
            if (when == 0) {
                x.cut();
            }
        }
        x.round(2, 6);
        for (int couple = 0; couple < 7; couple++) {
            Check.due("ofCouple(" + couple + ", 6) in the next round", x.ofCouple(couple, 6), 0);
        }
    }

    // "7 its HEAT in the DANCE of that ROUND which was danced last (NONE if none was, or it was in none)"
    private static void itsHeatInTheDanceThatWasDancedLast() {
        SkateSheet x = Halls.hall(4, 3);
        x.open(7, 2);
        dueHeats(x, -1, -1, -1, -1);
        x.round(2, 2);
        dueHeats(x, -1, -1, -1, -1);
        x.dance();
        dueHeats(x, 0, 0, 1, -1);
        x.cross(0, 0, 5);
        x.dance();
        dueHeats(x, 0, 1, 0, -1);
        x.cross(0, 1, 5);
        x.cut();
        dueHeats(x, 0, 1, 0, -1);
        x.begin();
        dueHeats(x, 0, 1, 0, -1);
        x.close();
        dueHeats(x, -1, -1, -1, -1);
        // Who is out is in no heat of the next round.
        SkateSheet out = Halls.behindACut(1);
        dueHeats(out, 0, 0, 0, 0, 1, 1);
        out.round(2, 2);
        dueHeats(out, -1, -1, -1, -1, -1, -1);
        out.dance();
        dueHeats(out, 0, 1, 0, 1, -1, -1);
    }

    private static void dueHeats(SkateSheet x, int... heats) {
        for (int couple = 0; couple < heats.length; couple++) {
            Check.due("ofCouple(" + couple + ", 7)", x.ofCouple(couple, 7), heats[couple]);
        }
    }

    // "IndexOutOfBoundsException if there is no such COUPLE" (of meetings)
    private static void meetingsAreOfCouplesThereAre() {
        for (int number = 1; number <= 10; number++) {
            int couples = number;
            Check.due("meetings of the first and the last", Halls.hall(couples, 0).meetings(0, couples - 1), 0);
            Check.due("meetings of the last and the first", Halls.hall(couples, 0).meetings(couples - 1, 0), 0);
            for (int couple : Refusal.outside(0, couples - 1)) {
                String of = " of " + number;
                Refusal.due(() -> Halls.hall(couples, 0), Refusal.BOUNDS, "meetings(0, " + couple + ")" + of,
                        x -> x.meetings(0, couple));
                Refusal.due(() -> Halls.hall(couples, 0), Refusal.BOUNDS, "meetings(" + couple + ", 0)" + of,
                        x -> x.meetings(couple, 0));
                Refusal.due(() -> Halls.hall(couples, 0), Refusal.BOUNDS,
                        "meetings(" + couple + ", " + couple + ")" + of, x -> x.meetings(couple, couple));
            }
        }
    }

    // "(0 of one with itself)"
    private static void nobodyMeetsItself() {
        SkateSheet x = Halls.opened(10, 3, 5);
        x.round(9, 6);
        Halls.finishRound(x);
        for (int couple = 0; couple < 10; couple++) {
            Check.due("meetings(" + couple + ", " + couple + ")", x.meetings(couple, couple), 0);
        }
    }

    // "IndexOutOfBoundsException if there is no such JUDGE"
    private static void oneAsksOfJudgesThereAre() {
        for (int number = 0; number <= 7; number++) {
            int judges = number;
            for (int judge = 0; judge < judges; judge++) {
                Check.due("ofJudge(" + judge + ", 0) of " + number, Halls.hall(0, judges).ofJudge(judge, 0), 1);
            }
            for (int judge : Refusal.outside(0, judges - 1)) {
                Refusal.due(() -> Halls.hall(3, judges), Refusal.BOUNDS, "ofJudge(" + judge + ", 0) of " + number,
                        x -> x.ofJudge(judge, 0));
            }
        }
    }

    // "IllegalArgumentException if what is not 0 to 3"
    private static void oneAsks0To3OfAJudge() {
        int[] fresh = {1, 0, 0, 0};
        for (int what = 0; what <= 3; what++) {
            Check.due("ofJudge(2, " + what + ")", Halls.hall(3, 3).ofJudge(2, what), fresh[what]);
        }
        for (int what : Refusal.outside(0, 3)) {
            Refusal.due(() -> Halls.hall(3, 3), Refusal.ILLEGAL, "ofJudge(2, " + what + ")",
                    x -> x.ofJudge(2, what));
            Refusal.due(Halls::finalOfFour, Refusal.ILLEGAL, "ofJudge(3, " + what + ") in a final",
                    x -> x.ofJudge(3, what));
        }
    }

    // "If several exceptions apply, the one that is named first is thrown." (of a judge)
    private static void theJudgeIsLookedAtFirst() {
        for (int what : Refusal.outside(0, 3)) {
            Refusal.due(() -> Halls.hall(3, 3), Refusal.BOUNDS, "ofJudge(3, " + what + ")", x -> x.ofJudge(3, what));
            Refusal.due(() -> Halls.hall(3, 3), Refusal.BOUNDS, "ofJudge(-1, " + what + ")",
                    x -> x.ofJudge(-1, what));
        }
    }

    // "1 1 if of the PANEL that is open, otherwise 0"
    private static void aJudgeIsOfThePanelThatIsOpen() {
        SkateSheet x = Halls.hall(3, 4);
        int[] is = {1, 1, 1, 0};
        for (int judge = 0; judge < 4; judge++) {
            Check.due("ofJudge(" + judge + ", 1) before the event", x.ofJudge(judge, 1), 0);
        }
        x.open(7, 1);
        for (int judge = 0; judge < 4; judge++) {
            Check.due("ofJudge(" + judge + ", 1) in the event", x.ofJudge(judge, 1), is[judge]);
        }
        x.begin();
        for (int judge = 0; judge < 4; judge++) {
            Check.due("ofJudge(" + judge + ", 1) in the final", x.ofJudge(judge, 1), is[judge]);
        }
        x.close();
        for (int judge = 0; judge < 4; judge++) {
            Check.due("ofJudge(" + judge + ", 1) behind the event", x.ofJudge(judge, 1), 0);
        }
    }

    // "3 SHEETS in the FINAL (0 without one)"
    private static void sheetsOfAJudgeAreOfTheFinal() {
        SkateSheet x = Halls.opened(3, 7, 5);
        Check.due("ofJudge(6, 3) before the final", x.ofJudge(6, 3), 0);
        x.begin();
        for (int dance = 0; dance < 5; dance++) {
            Check.due("ofJudge(6, 3)", x.ofJudge(6, 3), dance);
            x.sheet(6, dance, 123);
        }
        Check.due("ofJudge(6, 3)", x.ofJudge(6, 3), 5);
        Check.due("ofJudge(0, 3)", x.ofJudge(0, 3), 0);
        x.lose(6, 4);
        Check.due("ofJudge(6, 3) with one lost", x.ofJudge(6, 3), 4);
        x.close();
        Check.due("ofJudge(6, 3) behind the final", x.ofJudge(6, 3), 0);
    }

    // "IndexOutOfBoundsException if no FINAL has begun" (votes, places), and that is looked at first
    private static void votesAndPlacesAreOfAFinal() {
        dueNoVotes(() -> Halls.hall(3, 3), "without an event");
        dueNoVotes(() -> Halls.opened(3, 3, 1), "before the final");
        dueNoVotes(() -> Halls.inRound(1, 1), "in a round");
        dueNoVotes(() -> Halls.behindACut(1), "behind a cut");
        dueNoVotes(() -> Halls.closed(3, 3), "behind the final");
    }

    private static void dueNoVotes(Refusal.State state, String when) {
        for (int p : new int[] {-1, 0, 1, 2, 9}) {
            Refusal.due(state, Refusal.BOUNDS, "votes(0, 0, " + p + ") " + when, x -> x.votes(0, 0, p));
            Refusal.due(state, Refusal.BOUNDS, "placed(0, 0, " + p + ") " + when, x -> x.placed(0, 0, p));
        }
    }

    // "IndexOutOfBoundsException if .. the COUPLE is not IN" (votes, places), and that is looked at first
    private static void votesAndPlacesAreOfWhoIsIn() {
        for (int couple : Refusal.outside(1, 4)) {
            for (int p : new int[] {-1, 0, 1, 2, 5}) {
                Refusal.due(Halls::finalOfFour, Refusal.BOUNDS, "votes(" + couple + ", 0, " + p + ")",
                        x -> x.votes(couple, 0, p));
                Refusal.due(Halls::finalOfFour, Refusal.BOUNDS, "placed(" + couple + ", 0, " + p + ")",
                        x -> x.placed(couple, 0, p));
            }
        }
        // Two sheets of the dance 0, 4321 and 2143: 1 has the marks 1 and 3, 3 has 3 and 1.
        for (int couple = 1; couple <= 4; couple++) {
            Check.due("votes(" + couple + ", 0, 1)", Halls.finalOfFour().votes(couple, 0, 1),
                    couple == 1 || couple == 3 ? 1 : 0);
            Check.due("votes(" + couple + ", 0, 4)", Halls.finalOfFour().votes(couple, 0, 4), 2);
        }
        SkateSheet cut = Halls.behindACut(1);
        cut.begin();
        Check.refused(cut, "votes(4, 0, 1) of one that is out", Refusal.BOUNDS, () -> cut.votes(4, 0, 1));
        Check.refused(cut, "placed(5, 0, 0) of one that is out", Refusal.BOUNDS, () -> cut.placed(5, 0, 0));
    }

    // "IndexOutOfBoundsException if .. there is no such DANCE" (votes, places), and that is looked at first
    private static void votesAndPlacesAreOfADanceOfTheEvent() {
        for (int number = 1; number <= 5; number++) {
            int dances = number;
            SkateSheet x = Halls.inFinal(8, 7, dances);
            x.sheet(6, dances - 1, 12345678);
            Check.due("votes(7, last, 1) of " + number, x.votes(7, dances - 1, 1), 1);
            Check.due("placed(7, last, 0) of " + number, x.placed(7, dances - 1, 0), 2);
            Check.due("placed(0, last, 1) of " + number, x.placed(0, dances - 1, 1), 0);
            for (int dance : Refusal.outside(0, dances - 1)) {
                for (int p = 0; p <= 4; p += 4) {
                    int told = p;
                    Refusal.due(() -> Halls.inFinal(3, 3, dances), Refusal.BOUNDS,
                            "votes(0, " + dance + ", " + p + ") of " + number, y -> y.votes(0, dance, told));
                    Refusal.due(() -> Halls.inFinal(3, 3, dances), Refusal.BOUNDS,
                            "placed(0, " + dance + ", " + p + ") of " + number, y -> y.placed(0, dance, told));
                }
            }
        }
    }

    // "IllegalArgumentException if p is not 1 to how many are IN"
    private static void pIs1ToHowManyAreIn() {
        for (int number = 3; number <= 8; number++) {
            int couples = number;
            SkateSheet x = Halls.inFinal(couples, 3, 1);
            x.sheet(0, 0, Halls.inOrder(couples));
            for (int p = 1; p <= couples; p++) {
                Check.due("votes(0, 0, " + p + ")", x.votes(0, 0, p), 1);
                Check.due("votes(last, 0, " + p + ")", x.votes(couples - 1, 0, p), p == couples ? 1 : 0);
            }
            for (int p : Refusal.outside(1, couples)) {
                Refusal.due(() -> Halls.inFinal(couples, 3, 1), Refusal.ILLEGAL,
                        "votes(0, 0, " + p + ") of " + number, y -> y.votes(0, 0, p));
            }
        }
        // Five are entered, but four of them are in.
        SkateSheet x = Halls.opened(5, 3, 1);
        x.round(4, 6);
        x.dance();
        x.cross(0, 0, 15);
        x.cut();
        x.begin();
        Check.due("votes(0, 0, 4) of four", x.votes(0, 0, 4), 0);
        Check.refused(x, "votes(0, 0, 5) of four", Refusal.ILLEGAL, () -> x.votes(0, 0, 5));
    }

    // "IllegalArgumentException if what is not 0 or 1"
    private static void aPlaceAndAReasonAreAsked() {
        for (int what : Refusal.outside(0, 1)) {
            Refusal.due(Halls::finalOfFour, Refusal.ILLEGAL, "placed(1, 0, " + what + ")",
                    x -> x.placed(1, 0, what));
        }
        SkateSheet x = Halls.finalOfFour();
        // The dance 1 has one sheet, 1324: 4 2 3 1 by the couples, and 3 is penalised.
        int[] places = {6, 4, 8, 2};
        for (int couple = 1; couple <= 4; couple++) {
            Check.due("placed(" + couple + ", 1, 0)", x.placed(couple, 1, 0), places[couple - 1]);
            Check.due("placed(" + couple + ", 1, 1)", x.placed(couple, 1, 1), couple == 3 ? 5 : 0);
        }
    }

    // "IllegalArgumentException if what is not 0 to 10"
    private static void oneAsks0To10OfAll() {
        for (int what : Refusal.outside(0, 10)) {
            Refusal.due(SkateSheet::new, Refusal.ILLEGAL, "many(" + what + ")", x -> x.many(what));
            Refusal.due(Halls::finalOfFour, Refusal.ILLEGAL, "many(" + what + ") in a final", x -> x.many(what));
        }
    }

    private static void dueMany(SkateSheet x, String when, int... want) {
        for (int what = 0; what <= 10; what++) {
            Check.due("many(" + what + ") " + when, x.many(what), want[what]);
        }
    }

    // "(3 to 10: 0 without)"
    private static void manyWithoutAnEvent() {
        dueMany(new SkateSheet(), "of a new object", 0, 0, 0, 0, 0, 0, 0, 0, 0, 0, 0);
        dueMany(Halls.hall(10, 7), "of a full hall", 10, 7, 0, 0, 0, 0, 0, 0, 0, 0, 0);
        SkateSheet x = Halls.behindACut(5);
        x.begin();
        x.sheet(0, 4, 4321);
        x.close();
        dueMany(x, "behind an event", 6, 3, 1, 0, 0, 0, 0, 0, 0, 0, 0);
    }

    // "7 those that are danced in a ROUND that is not CUT", "8 the set of those that are IN", "10 SHEETS in the FINAL"
    private static void manyInAnEvent() {
        SkateSheet x = Halls.hall(10, 7);
        x.open(1023, 5);
        dueMany(x, "in an event", 10, 7, 0, 1, 0, 0, 5, 0, 1023, 7, 0);
        x.round(8, 6);
        dueMany(x, "in a round", 10, 7, 0, 1, 0, 1, 5, 0, 1023, 7, 0);
        for (int dance = 0; dance < 5; dance++) {
            x.dance();
            x.cross(0, dance, 0b1111111100);
            dueMany(x, "behind a dance", 10, 7, 0, 1, 0, 1, 5, dance + 1, 1023, 7, 0);
        }
        x.cut();
        dueMany(x, "behind the cut", 10, 7, 0, 1, 0, 1, 5, 0, 1020, 7, 0);
        x.round(2, 2);
        dueMany(x, "in the next round", 10, 7, 0, 1, 0, 2, 5, 0, 1020, 7, 0);
        Halls.finishRound(x);
        x.begin();
        dueMany(x, "in the final", 10, 7, 0, 1, 1, 2, 5, 0, 1020, 7, 0);
        for (int sheet = 0; sheet < 35; sheet++) {
            x.sheet(sheet % 7, sheet / 7, 87654321);
        }
        dueMany(x, "with all sheets", 10, 7, 0, 1, 1, 2, 5, 0, 1020, 7, 35);
    }
}
