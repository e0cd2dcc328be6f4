/** The sentences of "1. People and events" and of the promises 1 to 4 that name a boundary, a test each. */
public final class PeopleBoundsTest {
    private PeopleBoundsTest() {
    }

    public static void main(String[] args) {
        aNewHallHasNobody();
        clubsOfCouplesAre0To5();
        couplesAreAtMostTen();
        theClubOfAnEleventhCoupleIsLookedAtFirst();
        couplesAreToldInAnEventToo();
        aCoupleIsOfTheLevel0();
        clubsOfJudgesAre0To5();
        judgesAreAtMostSeven();
        noJudgeIsToldWhileAnEventIsOpen();
        theClubOfAJudgeTooManyIsLookedAtFirst();
        threeCouplesAtLeastAreEntered();
        noBitIsThatOfNoCouple();
        dancesAre1To5();
        allEnteredAreIn();
        aPanelIsOfThreeAtLeast();
        anEvenPanelGoesWithoutTheGreatest();
        aPanelIsOfNoClubOfTheEntered();
        oneEventAtATimeIsOpen();
        whatIsEnteredIsLookedAtFirst();
        closedEventsAreNumberedFrom0();
        theLastOf512CallsIsAnswered();
        Check.end();
    }

    // "Creates a hall without COUPLES and JUDGES."
    private static void aNewHallHasNobody() {
        SkateSheet x = new SkateSheet();
        for (int what = 0; what <= 10; what++) {
            Check.due("many(" + what + ")", x.many(what), 0);
        }
        Check.due("meanStanding() without any", x.meanStanding(), 0.0);
        Check.due("fragile()", x.fragile(), -1);
        Refusal.State none = SkateSheet::new;
        Refusal.due(none, Refusal.ILLEGAL, "open(7, 1) of nobody", y -> y.open(7, 1));
        Refusal.due(none, Refusal.ILLEGAL, "open(0, 1) of nobody", y -> y.open(0, 1));
        Refusal.due(none, Refusal.STATE, "round(2, 2) of nobody", y -> y.round(2, 2));
        Refusal.due(none, Refusal.STATE, "dance() of nobody", SkateSheet::dance);
        Refusal.due(none, Refusal.BOUNDS, "cross(0, 0, 0) of nobody", y -> y.cross(0, 0, 0));
        Refusal.due(none, Refusal.STATE, "cut() of nobody", SkateSheet::cut);
        Refusal.due(none, Refusal.STATE, "begin() of nobody", SkateSheet::begin);
        Refusal.due(none, Refusal.BOUNDS, "sheet(0, 0, 0) of nobody", y -> y.sheet(0, 0, 0));
        Refusal.due(none, Refusal.BOUNDS, "lose(0, 0) of nobody", y -> y.lose(0, 0));
        Refusal.due(none, Refusal.BOUNDS, "penalise(0, 0, true) of nobody", y -> y.penalise(0, 0, true));
        Refusal.due(none, Refusal.STATE, "close() of nobody", SkateSheet::close);
        Refusal.due(none, Refusal.BOUNDS, "ofCouple(0, 0) of nobody", y -> y.ofCouple(0, 0));
        Refusal.due(none, Refusal.BOUNDS, "meetings(0, 0) of nobody", y -> y.meetings(0, 0));
        Refusal.due(none, Refusal.BOUNDS, "ofJudge(0, 0) of nobody", y -> y.ofJudge(0, 0));
        Refusal.due(none, Refusal.BOUNDS, "votes(0, 0, 1) of nobody", y -> y.votes(0, 0, 1));
        Refusal.due(none, Refusal.BOUNDS, "placed(0, 0, 0) of nobody", y -> y.placed(0, 0, 0));
        Refusal.due(none, Refusal.BOUNDS, "result(0, 0) of nobody", y -> y.result(0, 0));
        Refusal.due(none, Refusal.BOUNDS, "exchanged of nobody", y -> y.exchanged(0, 0, 0, 0, 0));
        Refusal.due(none, Refusal.BOUNDS, "bestExchange of nobody", y -> y.bestExchange(0, 0, 0));
        Refusal.due(none, Refusal.BOUNDS, "without(0, 0) of nobody", y -> y.without(0, 0));
    }

    // "Throws IllegalArgumentException if club is not 0 to 5" (a couple)
    private static void clubsOfCouplesAre0To5() {
        SkateSheet x = new SkateSheet();
        for (int club = 0; club <= 5; club++) {
            Check.due("couple(" + club + ")", x.couple(club), club);
            Check.due("ofCouple(" + club + ", 0)", x.ofCouple(club, 0), club);
        }
        for (int club : Refusal.outside(0, 5)) {
            Refusal.due(SkateSheet::new, Refusal.ILLEGAL, "couple(" + club + ")", y -> y.couple(club));
            Refusal.due(Halls::finalOfFour, Refusal.ILLEGAL, "couple(" + club + ") in a final", y -> y.couple(club));
        }
    }

    // "COUPLES: at most 10, numbered from 0", "IllegalStateException if there are 10"
    private static void couplesAreAtMostTen() {
        SkateSheet x = new SkateSheet();
        for (int number = 0; number < 10; number++) {
            Check.due("couple(3)", x.couple(3), number);
        }
        Check.due("many(0) of ten", x.many(0), 10);
        Refusal.due(() -> Halls.hall(10, 3), Refusal.STATE, "couple(0) as the 11th", y -> y.couple(0));
        Refusal.due(() -> Halls.hall(10, 3), Refusal.STATE, "couple(5) as the 11th", y -> y.couple(5));
        Refusal.due(() -> Halls.opened(10, 3, 1), Refusal.STATE, "couple(5) as the 11th in an event", y -> y.couple(5));
    }

    // "If several exceptions apply, the one that is named first is thrown." (a couple)
    private static void theClubOfAnEleventhCoupleIsLookedAtFirst() {
        for (int club : Refusal.outside(0, 5)) {
            Refusal.due(() -> Halls.hall(10, 3), Refusal.ILLEGAL, "couple(" + club + ") as the 11th",
                    y -> y.couple(club));
        }
    }

    // A couple is refused for its club and for the ten alone, so an event that is open is no reason.
    private static void couplesAreToldInAnEventToo() {
        SkateSheet x = Halls.opened(3, 3, 1);
        Check.due("couple(1) in an event", x.couple(1), 3);
        x.round(2, 6);
        Check.due("couple(2) in a round", x.couple(2), 4);
        Check.due("dance() with those that are in alone", x.dance(), 1);
        Check.due("ofCouple(3, 7) of one told in the event", x.ofCouple(3, 7), -1);
        x.cut();
        x.begin();
        Check.due("couple(4) in a final", x.couple(4), 5);
        for (int couple = 3; couple < 6; couple++) {
            Check.due("ofCouple(" + couple + ", 3)", x.ofCouple(couple, 3), 0);
            Check.due("ofCouple(" + couple + ", 4)", x.ofCouple(couple, 4), 0);
        }
        Check.due("many(8)", x.many(8), 7);
        x.close();
        Check.due("ofCouple(5, 2) behind it", x.ofCouple(5, 2), 0);
        Check.due("ofCouple(0, 2) behind it", x.ofCouple(0, 2), 5 * (8 - 4));
    }

    // "Tells a COUPLE, of the LEVEL 0."
    private static void aCoupleIsOfTheLevel0() {
        SkateSheet x = Halls.closed(8, 3);
        Check.due("ofCouple(0, 1) behind a victory", x.ofCouple(0, 1), 1);
        int couple = x.couple(0);
        Check.due("ofCouple(8, 1)", x.ofCouple(couple, 1), 0);
        Check.due("ofCouple(8, 2)", x.ofCouple(couple, 2), 0);
    }

    // "Throws IllegalArgumentException if club is not 0 to 5" (a judge)
    private static void clubsOfJudgesAre0To5() {
        SkateSheet x = new SkateSheet();
        for (int club = 0; club <= 5; club++) {
            Check.due("judge(" + club + ")", x.judge(club), club);
            Check.due("ofJudge(" + club + ", 0)", x.ofJudge(club, 0), club);
        }
        for (int club : Refusal.outside(0, 5)) {
            Refusal.due(SkateSheet::new, Refusal.ILLEGAL, "judge(" + club + ")", y -> y.judge(club));
            Refusal.due(() -> Halls.hall(3, 6), Refusal.ILLEGAL, "judge(" + club + ") as the 7th",
                    y -> y.judge(club));
        }
    }

    // "JUDGES: at most 7, numbered from 0", "IllegalStateException if there are 7"
    private static void judgesAreAtMostSeven() {
        SkateSheet x = new SkateSheet();
        for (int number = 0; number < 7; number++) {
            Check.due("judge(5)", x.judge(5), number);
        }
        Check.due("many(1) of seven", x.many(1), 7);
        Refusal.due(() -> Halls.hall(3, 7), Refusal.STATE, "judge(0) as the 8th", y -> y.judge(0));
        Refusal.due(() -> Halls.hall(3, 7), Refusal.STATE, "judge(5) as the 8th", y -> y.judge(5));
    }

    // "IllegalStateException if .. an EVENT is open" (a judge)
    private static void noJudgeIsToldWhileAnEventIsOpen() {
        Refusal.due(() -> Halls.opened(3, 3, 1), Refusal.STATE, "judge(2) in an event", y -> y.judge(2));
        Refusal.due(() -> Halls.inRound(2, 1), Refusal.STATE, "judge(2) in a round", y -> y.judge(2));
        Refusal.due(() -> Halls.behindACut(1), Refusal.STATE, "judge(2) behind a cut", y -> y.judge(2));
        Refusal.due(Halls::finalOfFour, Refusal.STATE, "judge(2) in a final", y -> y.judge(2));
        SkateSheet x = Halls.finalOfFour();
        x.close();
        Check.due("judge(2) behind the event", x.judge(2), 4);
    }

    // "If several exceptions apply, the one that is named first is thrown." (a judge)
    private static void theClubOfAJudgeTooManyIsLookedAtFirst() {
        for (int club : Refusal.outside(0, 5)) {
            Refusal.due(() -> Halls.hall(3, 7), Refusal.ILLEGAL, "judge(" + club + ") as the 8th",
                    y -> y.judge(club));
            Refusal.due(() -> Halls.opened(3, 3, 1), Refusal.ILLEGAL, "judge(" + club + ") in an event",
                    y -> y.judge(club));
        }
    }

    // "some COUPLES (3 at least) are ENTERED", "IllegalArgumentException if .. less than 3"
    private static void threeCouplesAtLeastAreEntered() {
        for (int couples : new int[] {0, 1, 2, 512, 3, 6, 513, 768}) {
            Refusal.due(() -> Halls.hall(10, 3), Refusal.ILLEGAL, "open(" + couples + ", 1)",
                    y -> y.open(couples, 1));
        }
        for (int couples : new int[] {7, 0b1110000000, 0b1000010001, 1023}) {
            SkateSheet x = Halls.hall(10, 3);
            Check.due("open(" + couples + ", 1)", x.open(couples, 1), 3);
            Check.due("many(8)", x.many(8), couples);
        }
    }

    // "IllegalArgumentException if couples has a bit that is no COUPLE"
    private static void noBitIsThatOfNoCouple() {
        for (int number = 3; number <= 10; number++) {
            int all = (1 << number) - 1;
            SkateSheet x = Halls.hall(number, 3);
            for (int bit = number; bit < 32; bit++) {
                int told = all | 1 << bit;
                Check.refused(x, "open(" + told + ", 1) of " + number, Refusal.ILLEGAL, () -> x.open(told, 1));
            }
            Check.due("open of all " + number, x.open(all, 1), 3);
        }
        for (int couples : new int[] {8 + 3, 15, 1024 + 7, Integer.MIN_VALUE + 7, -1, -8, Integer.MAX_VALUE}) {
            Refusal.due(() -> Halls.hall(3, 3), Refusal.ILLEGAL, "open(" + couples + ", 1) of three",
                    y -> y.open(couples, 1));
        }
    }

    // "IllegalArgumentException if .. dances is not 1 to 5"
    private static void dancesAre1To5() {
        for (int dances = 1; dances <= 5; dances++) {
            SkateSheet x = Halls.hall(3, 3);
            Check.due("open(7, " + dances + ")", x.open(7, dances), 3);
            Check.due("many(6)", x.many(6), dances);
            x.begin();
            Check.due("sheet in the last dance", x.sheet(0, dances - 1, 321), 1);
            int behind = dances;
            Check.refused(x, "sheet behind the last dance", Refusal.BOUNDS, () -> x.sheet(0, behind, 321));
        }
        for (int dances : Refusal.outside(1, 5)) {
            Refusal.due(() -> Halls.hall(3, 3), Refusal.ILLEGAL, "open(7, " + dances + ")", y -> y.open(7, dances));
        }
    }

    // "All ENTERED are IN."
    private static void allEnteredAreIn() {
        SkateSheet x = Halls.hall(10, 3);
        x.open(0b1001100001, 1);
        for (int couple = 0; couple < 10; couple++) {
            int is = couple == 0 || couple == 5 || couple == 6 || couple == 9 ? 1 : 0;
            Check.due("ofCouple(" + couple + ", 3)", x.ofCouple(couple, 3), is);
            Check.due("ofCouple(" + couple + ", 4)", x.ofCouple(couple, 4), is);
            Check.due("ofCouple(" + couple + ", 5)", x.ofCouple(couple, 5), 0);
        }
        Check.due("many(3)", x.many(3), 1);
        Check.due("many(4)", x.many(4), 0);
        Check.due("many(5)", x.many(5), 0);
        Check.due("many(8)", x.many(8), 0b1001100001);
    }

    // "3 at least", "IllegalStateException if .. the PANEL would have less than 3"
    private static void aPanelIsOfThreeAtLeast() {
        int[] panel = {0, 0, 0, 3, 3, 5, 5, 7};
        for (int judges = 0; judges <= 7; judges++) {
            int number = judges;
            if (panel[judges] == 0) {
                Refusal.due(() -> Halls.hall(3, number), Refusal.STATE, "open(7, 1) with the judges " + judges,
                        y -> y.open(7, 1));
            } else {
                SkateSheet x = Halls.hall(3, judges);
                Check.due("open(7, 1) with the judges " + judges, x.open(7, 1), panel[judges]);
                Check.due("many(9)", x.many(9), panel[judges]);
            }
        }
    }

    // "if they are an even number, without the one with the greatest number"
    private static void anEvenPanelGoesWithoutTheGreatest() {
        for (int judges = 3; judges <= 7; judges++) {
            SkateSheet x = Halls.opened(3, judges, 1);
            for (int judge = 0; judge < judges; judge++) {
                int is = judges % 2 == 0 && judge == judges - 1 ? 0 : 1;
                Check.due("ofJudge(" + judge + ", 1) of " + judges, x.ofJudge(judge, 1), is);
            }
        }
        // The greatest number of those that could be in it is 4, though there is a judge 5.
        SkateSheet x = Halls.hall(3, 0);
        for (int club : new int[] {1, 0, 2, 3, 4, 0}) {
            x.judge(club);
        }
        Check.due("open(7, 1)", x.open(7, 1), 3);
        int[] is = {1, 0, 1, 1, 0, 0};
        for (int judge = 0; judge < 6; judge++) {
            Check.due("ofJudge(" + judge + ", 1)", x.ofJudge(judge, 1), is[judge]);
        }
    }

    // "all JUDGES whose CLUB is that of none of these COUPLES"
    private static void aPanelIsOfNoClubOfTheEntered() {
        for (int club = 0; club <= 5; club++) {
            int own = club;
            Refusal.State state = () -> clubAgainstClub(own, 2);
            Refusal.due(state, Refusal.STATE, "open(7, 1) with two free of the club " + club, y -> y.open(7, 1));
            SkateSheet x = clubAgainstClub(own, 3);
            Check.due("open(7, 1) with three free", x.open(7, 1), 3);
            Check.due("ofJudge(0, 1) of their club", x.ofJudge(0, 1), 0);
            Check.due("ofJudge(3, 1) of another club", x.ofJudge(3, 1), 1);
        }
        // The couple 3 of the judges' club is told, but not entered.
        SkateSheet x = Halls.hall(3, 3);
        x.couple(1);
        Check.refused(x, "open(15, 1)", Refusal.STATE, () -> x.open(15, 1));
        Check.refused(x, "open(14, 1)", Refusal.STATE, () -> x.open(14, 1));
        Check.due("open(7, 1)", x.open(7, 1), 3);
    }

    /** Three couples and the judge 0 of a club, and so many judges of another one. */
    private static SkateSheet clubAgainstClub(int club, int others) {
        SkateSheet x = new SkateSheet();
        for (int i = 0; i < 3; i++) {
            x.couple(club);
        }
        x.judge(club);
        for (int i = 0; i < others; i++) {
            x.judge((club + 1) % 6);
        }
        return x;
    }

    // "One EVENT at a time is open", "IllegalStateException if one is open"
    private static void oneEventAtATimeIsOpen() {
        Refusal.due(() -> Halls.opened(3, 3, 1), Refusal.STATE, "open(7, 1) in an event", y -> y.open(7, 1));
        Refusal.due(() -> Halls.inRound(2, 0), Refusal.STATE, "open(7, 1) in a round", y -> y.open(7, 1));
        Refusal.due(() -> Halls.behindACut(2), Refusal.STATE, "open(7, 1) behind a cut", y -> y.open(7, 1));
        Refusal.due(Halls::finalOfFour, Refusal.STATE, "open(7, 1) in a final", y -> y.open(7, 1));
        SkateSheet x = Halls.closed(3, 3);
        Check.due("many(3) behind the close", x.many(3), 0);
        Check.due("open(7, 2) behind the close", x.open(7, 2), 3);
        Check.due("many(3)", x.many(3), 1);
    }

    // "If several exceptions apply, the one that is named first is thrown." (an event)
    private static void whatIsEnteredIsLookedAtFirst() {
        Refusal.due(() -> Halls.opened(3, 3, 1), Refusal.ILLEGAL, "open(3, 1) in an event", y -> y.open(3, 1));
        Refusal.due(() -> Halls.opened(3, 3, 1), Refusal.ILLEGAL, "open(15, 1) in an event", y -> y.open(15, 1));
        Refusal.due(() -> Halls.opened(3, 3, 1), Refusal.ILLEGAL, "open(7, 0) in an event", y -> y.open(7, 0));
        Refusal.due(() -> Halls.opened(3, 3, 1), Refusal.ILLEGAL, "open(7, 6) in an event", y -> y.open(7, 6));
        Refusal.due(() -> Halls.hall(3, 2), Refusal.ILLEGAL, "open(3, 1) with two judges", y -> y.open(3, 1));
        Refusal.due(() -> Halls.hall(3, 2), Refusal.ILLEGAL, "open(15, 1) with two judges", y -> y.open(15, 1));
        Refusal.due(() -> Halls.hall(3, 2), Refusal.ILLEGAL, "open(7, 0) with two judges", y -> y.open(7, 0));
        Refusal.due(() -> Halls.hall(3, 2), Refusal.ILLEGAL, "open(7, 6) with two judges", y -> y.open(7, 6));
    }

    // "EVENTS that were CLOSED are numbered from 0."
    private static void closedEventsAreNumberedFrom0() {
        SkateSheet x = Halls.hall(3, 3);
        for (int number = 0; number < 8; number++) {
            Check.due("many(2) before the close", x.many(2), number);
            x.open(7, 1);
            x.begin();
            Check.due("close()", x.close(), number);
            Check.due("many(2)", x.many(2), number + 1);
        }
    }

    // "An object is used for at most 512 calls after it has been made"
    private static void theLastOf512CallsIsAnswered() {
        SkateSheet x = Halls.hall(3, 3);
        int calls = 6;
        while (calls + 3 <= 511) {
            Halls.hold(x, 7, 0);
            calls += 3;
        }
        Check.due("calls before the last one", calls, 510);
        Check.due("close() is refused as the 511th", Check.outcome(x::close), "throws.IllegalStateException");
        Check.due("many(2) as the 512th", x.many(2), 168);
    }
}
