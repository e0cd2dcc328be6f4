/** The sentences of "3. A final" and of the promises 9 to 13 that name a boundary, a test each. */
public final class FinalBoundsTest {
    private FinalBoundsTest() {
    }

    public static void main(String[] args) {
        eightOrLessAreInAFinal();
        noFinalBeginsWithoutAnEvent();
        aFinalBeginsOnce();
        noFinalBeginsInARound();
        aSheetIsOfAFinal();
        aSheetIsOfAJudgeOfThePanel();
        aSheetIsOfADanceOfTheEvent();
        marksAreJustNDigits();
        marksAre1ToNEachOnce();
        marksOfEightAreTold();
        judgeAndDanceAreLookedAtFirst();
        theLowestDigitIsTheFirstMark();
        aSheetToldAgainReplacesTheFormer();
        sheetsOfThatDanceAreCounted();
        aSheetThatIsNoneIsNotLost();
        aLostSheetIsNoneTillToldAgain();
        penalisedIsWhoIsInAFinal();
        aPenaltyIsOfADanceOfTheEvent();
        penaliseAnswersWhatWas();
        aMajorityIsHalfAndOne();
        aMarkOfPIsPOrBetter();
        moreMarksAreAhead();
        theSmallerSumIsAhead();
        laterMarksDecideUpToN();
        kThatShareHaveTheMean();
        thePenalisedShareTheLastPlaces();
        thePenalisedAreNoCandidates();
        withoutASheetAllShare();
        theReasonIsOfTheOtherCandidates();
        closeNeedsAFinal();
        aFinalClosesWhateverSheetsThereAre();
        nothingIsLeftBehindTheClose();
        Check.end();
    }

    private static void duePlaced(SkateSheet x, int couple, int dance, int place, int reason) {
        Check.due("placed(" + couple + ", " + dance + ", 0)", x.placed(couple, dance, 0), place);
        Check.due("placed(" + couple + ", " + dance + ", 1)", x.placed(couple, dance, 1), reason);
    }

    // "With 8 or less that are IN", "IllegalStateException if .. more than 8 are IN"
    private static void eightOrLessAreInAFinal() {
        for (int number = 3; number <= 8; number++) {
            Check.due("begin() with " + number, Halls.opened(number, 3, 1).begin(), number);
        }
        Refusal.due(() -> Halls.opened(9, 3, 1), Refusal.STATE, "begin() with nine", SkateSheet::begin);
        Refusal.due(() -> Halls.opened(10, 3, 1), Refusal.STATE, "begin() with ten", SkateSheet::begin);
        for (int number = 2; number <= 9; number++) {
            int quota = number;
            Refusal.State cut = () -> {
                SkateSheet x = Halls.opened(10, 3, 1);
                x.round(quota, 6);
                x.dance();
                x.cross(0, 0, (1 << quota) - 1);
                x.cut();
                return x;
            };
            if (number < 9) {
                Check.due("begin() with " + number + " of ten", cut.made().begin(), number);
            } else {
                Refusal.due(cut, Refusal.STATE, "begin() with nine of ten", SkateSheet::begin);
            }
        }
    }

    // "IllegalStateException if no EVENT is open" (a final)
    private static void noFinalBeginsWithoutAnEvent() {
        Refusal.due(() -> Halls.hall(3, 3), Refusal.STATE, "begin() before an event", SkateSheet::begin);
        Refusal.due(() -> Halls.closed(3, 3), Refusal.STATE, "begin() behind an event", SkateSheet::begin);
    }

    // "IllegalStateException if .. it has begun"
    private static void aFinalBeginsOnce() {
        Refusal.due(() -> Halls.inFinal(3, 3, 1), Refusal.STATE, "begin() once more", SkateSheet::begin);
        Refusal.due(Halls::finalOfFour, Refusal.STATE, "begin() once more, with sheets", SkateSheet::begin);
    }

    // "no ROUND that was begun and not CUT", "IllegalStateException if .. a ROUND is not CUT"
    private static void noFinalBeginsInARound() {
        for (int number = 0; number <= 2; number++) {
            int danced = number;
            Refusal.due(() -> Halls.inRound(2, danced), Refusal.STATE, "begin() behind dances: " + danced,
                    SkateSheet::begin);
        }
        SkateSheet x = Halls.behindACut(2);
        Check.due("many(4)", x.many(4), 0);
        Check.due("begin() behind the cut", x.begin(), 4);
        Check.due("many(4)", x.many(4), 1);
        SkateSheet second = Halls.behindACut(1);
        second.round(2, 2);
        Check.refused(second, "begin() in the second round", Refusal.STATE, second::begin);
    }

    // "IndexOutOfBoundsException if no FINAL has begun" (a sheet, a penalty)
    private static void aSheetIsOfAFinal() {
        dueOutsideAFinal(() -> Halls.hall(3, 3), "without an event");
        dueOutsideAFinal(() -> Halls.opened(3, 3, 1), "before the final");
        dueOutsideAFinal(() -> Halls.inRound(1, 1), "in a round");
        dueOutsideAFinal(() -> Halls.behindACut(1), "behind a cut");
        dueOutsideAFinal(() -> Halls.closed(3, 3), "behind the final");
    }

    private static void dueOutsideAFinal(Refusal.State state, String when) {
        Refusal.due(state, Refusal.BOUNDS, "sheet(0, 0, 321) " + when, x -> x.sheet(0, 0, 321));
        Refusal.due(state, Refusal.BOUNDS, "sheet(0, 0, 4321) " + when, x -> x.sheet(0, 0, 4321));
        Refusal.due(state, Refusal.BOUNDS, "lose(0, 0) " + when, x -> x.lose(0, 0));
        Refusal.due(state, Refusal.BOUNDS, "penalise(0, 0, true) " + when, x -> x.penalise(0, 0, true));
        Refusal.due(state, Refusal.BOUNDS, "penalise(0, 0, false) " + when, x -> x.penalise(0, 0, false));
    }

    // "IndexOutOfBoundsException if .. the JUDGE is not of the PANEL" (a sheet)
    private static void aSheetIsOfAJudgeOfThePanel() {
        for (int judge : Refusal.outside(0, 2)) {
            Refusal.due(Halls::finalOfFour, Refusal.BOUNDS, "sheet(" + judge + ", 0, 4321)",
                    x -> x.sheet(judge, 0, 4321));
        }
        for (int judge = 0; judge < 7; judge++) {
            Check.due("sheet(" + judge + ", 4, 321)", Halls.inFinal(3, 7, 5).sheet(judge, 4, 321), 1);
        }
        Refusal.due(() -> Halls.inFinal(3, 7, 5), Refusal.BOUNDS, "sheet(7, 4, 321)", x -> x.sheet(7, 4, 321));
    }

    // "IndexOutOfBoundsException if .. there is no such DANCE" (a sheet)
    private static void aSheetIsOfADanceOfTheEvent() {
        for (int number = 1; number <= 5; number++) {
            int dances = number;
            Check.due("sheet in the dance 0", Halls.inFinal(3, 3, dances).sheet(2, 0, 321), 1);
            Check.due("sheet in the last dance", Halls.inFinal(3, 3, dances).sheet(2, dances - 1, 321), 1);
            for (int dance : Refusal.outside(0, dances - 1)) {
                Refusal.due(() -> Halls.inFinal(3, 3, dances), Refusal.BOUNDS,
                        "sheet(0, " + dance + ", 321) of " + dances, x -> x.sheet(0, dance, 321));
            }
        }
    }

    /** Of six couples the first ones are in a final of one dance. */
    private static SkateSheet finalOf(int number) {
        SkateSheet x = Halls.opened(6, 3, 1);
        x.round(number, 6);
        x.dance();
        x.cross(0, 0, (1 << number) - 1);
        x.cut();
        x.begin();
        return x;
    }

    private static void dueNoMarks(int number, int... wrong) {
        for (int marks : wrong) {
            Refusal.due(() -> finalOf(number), Refusal.ILLEGAL, "sheet(0, 0, " + marks + ") of " + number,
                    x -> x.sheet(0, 0, marks));
        }
    }

    // "It is told as a number of just n digits"
    private static void marksAreJustNDigits() {
        Check.due("sheet(0, 0, 12)", finalOf(2).sheet(0, 0, 12), 1);
        Check.due("sheet(0, 0, 21)", finalOf(2).sheet(0, 0, 21), 1);
        dueNoMarks(2, 0, 1, 2, 321, 121, 112, 221, 1012, 2121, -12, -21, -1, 100012);
        Check.due("sheet(0, 0, 312)", finalOf(3).sheet(0, 0, 312), 1);
        dueNoMarks(3, 0, 1, 12, 21, 32, 1312, 3123, 4321, 10312, -312, -1);
        Check.due("sheet(0, 0, 51423)", finalOf(5).sheet(0, 0, 51423), 1);
        dueNoMarks(5, 4321, 5432, 654321, 543211, 100000, -54321);
    }

    // "a MARK: 1 to n, each once"
    private static void marksAre1ToNEachOnce() {
        int taken = 0;
        for (int marks = 0; marks < 1000; marks++) {
            SkateSheet x = finalOf(3);
            int told = marks;
            boolean each = marks == 123 || marks == 132 || marks == 213 || marks == 231 || marks == 312 || marks == 321;
            String answer = Check.outcome(() -> x.sheet(0, 0, told));
            Check.due("sheet(0, 0, " + marks + ")", answer, each ? "1" : "throws.IllegalArgumentException");
            taken += each ? 1 : 0;
        }
        Check.due("orders of three", taken, 6);
        dueNoMarks(2, 10, 20, 11, 22, 13, 31, 23, 32, 19, 91, 99);
        dueNoMarks(3, 320, 302, 421, 124, 222, 121, 212, 322, 331, 113, 311, 999);
        dueNoMarks(4, 4320, 5321, 4322, 4331, 1231, 1321, 3213, 4324, 1212, 3434);
    }

    // The same for as many as there can be.
    private static void marksOfEightAreTold() {
        Refusal.State eight = () -> Halls.inFinal(8, 3, 1);
        for (int marks : new int[] {12345678, 87654321, 81234567, 46281357}) {
            SkateSheet x = eight.made();
            Check.due("sheet(0, 0, " + marks + ")", x.sheet(0, 0, marks), 1);
            int rest = marks;
            for (int couple = 0; couple < 8; couple++) {
                // By one sheet alone a mark is the place.
                duePlaced(x, couple, 0, 2 * (rest % 10), 0);
                rest /= 10;
            }
        }
        int[] wrong = {1234567, 7654321, 123456789, 987654321, 187654321, 87654320, 80765432, 97654321, 87654329,
            88654321, 87654322, 87654311, 87654328, -87654321, 1287654321, Integer.MAX_VALUE, Integer.MIN_VALUE, 0};
        for (int marks : wrong) {
            Refusal.due(eight, Refusal.ILLEGAL, "sheet(0, 0, " + marks + ") of eight", x -> x.sheet(0, 0, marks));
        }
    }

    // "If several exceptions apply, the one that is named first is thrown." (a sheet)
    private static void judgeAndDanceAreLookedAtFirst() {
        for (int marks : new int[] {0, 321, 43210, -1}) {
            String told = ", " + marks + ")";
            Refusal.due(Halls::finalOfFour, Refusal.BOUNDS, "sheet(3, 0" + told, x -> x.sheet(3, 0, marks));
            Refusal.due(Halls::finalOfFour, Refusal.BOUNDS, "sheet(-1, 0" + told, x -> x.sheet(-1, 0, marks));
            Refusal.due(Halls::finalOfFour, Refusal.BOUNDS, "sheet(0, 2" + told, x -> x.sheet(0, 2, marks));
            Refusal.due(Halls::finalOfFour, Refusal.BOUNDS, "sheet(0, -1" + told, x -> x.sheet(0, -1, marks));
            Refusal.due(() -> Halls.opened(4, 3, 1), Refusal.BOUNDS, "sheet(0, 0" + told + " before the final",
                    x -> x.sheet(0, 0, marks));
        }
    }

    // "its k-th decimal digit (k from 0, the lowest one) is the MARK of the k-th one that is IN"
    private static void theLowestDigitIsTheFirstMark() {
        SkateSheet x = Halls.hall(10, 3);
        x.open(0b1010010010, 1);
        x.begin();
        x.sheet(0, 0, 1342);
        duePlaced(x, 1, 0, 4, 0);
        duePlaced(x, 4, 0, 8, 0);
        duePlaced(x, 7, 0, 6, 0);
        duePlaced(x, 9, 0, 2, 0);
    }

    // "A SHEET that was told can be told again (it counts in place of the former one)"
    private static void aSheetToldAgainReplacesTheFormer() {
        SkateSheet x = Halls.inFinal(3, 3, 1);
        Check.due("sheet(1, 0, 321)", x.sheet(1, 0, 321), 1);
        Check.due("sheet(1, 0, 123) told again", x.sheet(1, 0, 123), 1);
        Check.due("many(10)", x.many(10), 1);
        Check.due("ofJudge(1, 3)", x.ofJudge(1, 3), 1);
        Check.due("votes(0, 0, 1)", x.votes(0, 0, 1), 0);
        Check.due("votes(2, 0, 1)", x.votes(2, 0, 1), 1);
        duePlaced(x, 2, 0, 2, 0);
        Check.due("sheet(1, 0, 123) the same again", x.sheet(1, 0, 123), 1);
        Check.refused(x, "sheet(1, 0, 122) in its place", Refusal.ILLEGAL, () -> x.sheet(1, 0, 122));
        duePlaced(x, 2, 0, 2, 0);
    }

    // "Returns how many SHEETS that DANCE has then."
    private static void sheetsOfThatDanceAreCounted() {
        SkateSheet x = Halls.inFinal(3, 7, 5);
        for (int dance = 0; dance < 5; dance++) {
            for (int judge = 0; judge < 7; judge++) {
                Check.due("sheet(" + judge + ", " + dance + ", 321)", x.sheet(judge, dance, 321), judge + 1);
                Check.due("many(10)", x.many(10), 7 * dance + judge + 1);
                Check.due("ofJudge(" + judge + ", 3)", x.ofJudge(judge, 3), dance + 1);
            }
        }
        for (int judge = 0; judge < 7; judge++) {
            Check.due("lose(" + judge + ", 3)", x.lose(judge, 3), 6 - judge);
            Check.due("ofJudge(" + judge + ", 3)", x.ofJudge(judge, 3), 4);
        }
        Check.due("many(10)", x.many(10), 28);
        Check.due("placed(0, 3, 1) behind the last one", x.placed(0, 3, 1), 4);
        Check.due("placed(0, 4, 1)", x.placed(0, 4, 1), 0);
    }

    // "IndexOutOfBoundsException if there is no such SHEET in a FINAL" (a lost one)
    private static void aSheetThatIsNoneIsNotLost() {
        int[][] none = {{1, 0}, {0, 1}, {2, 1}, {3, 0}, {3, 1}};
        for (int[] told : none) {
            Refusal.due(Halls::finalOfFour, Refusal.BOUNDS, "lose(" + told[0] + ", " + told[1] + ")",
                    x -> x.lose(told[0], told[1]));
        }
        for (int judge : Refusal.outside(0, 2)) {
            Refusal.due(Halls::finalOfFour, Refusal.BOUNDS, "lose(" + judge + ", 0)", x -> x.lose(judge, 0));
            Refusal.due(Halls::finalOfFour, Refusal.BOUNDS, "lose(" + judge + ", 1)", x -> x.lose(judge, 1));
        }
        for (int dance : Refusal.outside(0, 1)) {
            Refusal.due(Halls::finalOfFour, Refusal.BOUNDS, "lose(0, " + dance + ")", x -> x.lose(0, dance));
            Refusal.due(Halls::finalOfFour, Refusal.BOUNDS, "lose(2, " + dance + ")", x -> x.lose(2, dance));
        }
        SkateSheet full = Halls.inFinal(3, 7, 5);
        for (int sheet = 0; sheet < 35; sheet++) {
            full.sheet(sheet % 7, sheet / 7, 321);
        }
        Check.refused(full, "lose(7, 4)", Refusal.BOUNDS, () -> full.lose(7, 4));
        Check.refused(full, "lose(6, 5)", Refusal.BOUNDS, () -> full.lose(6, 5));
        Check.refused(full, "lose(1, -1)", Refusal.BOUNDS, () -> full.lose(1, -1));
        Check.refused(full, "lose(-1, 6)", Refusal.BOUNDS, () -> full.lose(-1, 6));
        Check.due("lose(6, 4)", full.lose(6, 4), 6);
    }

    // "can be LOST (it is none, till it is told again)"
    private static void aLostSheetIsNoneTillToldAgain() {
        SkateSheet x = Halls.inFinal(3, 3, 2);
        Halls.tell(x, 0, 321, 321, 123);
        Check.due("lose(2, 0)", x.lose(2, 0), 2);
        Check.refused(x, "lose(2, 0) once more", Refusal.BOUNDS, () -> x.lose(2, 0));
        Check.refused(x, "exchanged of a lost one", Refusal.BOUNDS, () -> x.exchanged(2, 0, 0, 1, 0));
        Check.due("votes(2, 0, 1)", x.votes(2, 0, 1), 0);
        Check.due("sheet(2, 0, 132) told again", x.sheet(2, 0, 132), 3);
        Check.due("votes(2, 0, 1)", x.votes(2, 0, 1), 1);
        Check.due("lose(2, 0) of the one told again", x.lose(2, 0), 2);
        Check.due("lose(1, 0)", x.lose(1, 0), 1);
        Check.due("lose(0, 0)", x.lose(0, 0), 0);
        Check.due("many(10)", x.many(10), 0);
    }

    // "IndexOutOfBoundsException if .. the COUPLE is not IN" (a penalty)
    private static void penalisedIsWhoIsInAFinal() {
        for (int couple : Refusal.outside(1, 4)) {
            for (int way = 0; way < 2; way++) {
                boolean is = way == 0;
                Refusal.due(Halls::finalOfFour, Refusal.BOUNDS, "penalise(" + couple + ", 0, " + is + ")",
                        x -> x.penalise(couple, 0, is));
            }
        }
        for (int couple = 1; couple <= 4; couple++) {
            Check.due("penalise(" + couple + ", 0, true)", Halls.finalOfFour().penalise(couple, 0, true), false);
        }
        // 4 and 5 are out.
        Refusal.State cut = () -> {
            SkateSheet x = Halls.behindACut(1);
            x.begin();
            return x;
        };
        Refusal.due(cut, Refusal.BOUNDS, "penalise(4, 0, true)", x -> x.penalise(4, 0, true));
        Refusal.due(cut, Refusal.BOUNDS, "penalise(5, 0, true)", x -> x.penalise(5, 0, true));
        Check.due("penalise(3, 0, true)", cut.made().penalise(3, 0, true), false);
    }

    // "IndexOutOfBoundsException if .. there is no such DANCE" (a penalty)
    private static void aPenaltyIsOfADanceOfTheEvent() {
        for (int number = 1; number <= 5; number++) {
            int dances = number;
            SkateSheet taken = Halls.inFinal(8, 3, dances);
            Check.due("penalise(7, last, true)", taken.penalise(7, dances - 1, true), false);
            Check.due("penalise(0, 0, true)", taken.penalise(0, 0, true), false);
            for (int dance : Refusal.outside(0, dances - 1)) {
                Refusal.due(() -> Halls.inFinal(3, 3, dances), Refusal.BOUNDS,
                        "penalise(0, " + dance + ", true) of " + dances, x -> x.penalise(0, dance, true));
            }
        }
    }

    // "is whether it is PENALISED from now on", "Returns whether it was."
    private static void penaliseAnswersWhatWas() {
        SkateSheet x = Halls.inFinal(8, 3, 5);
        for (int couple = 0; couple < 8; couple += 7) {
            for (int dance = 0; dance < 5; dance += 4) {
                Check.due("penalise(.., false) at first", x.penalise(couple, dance, false), false);
                Check.due("penalise(.., true)", x.penalise(couple, dance, true), false);
                Check.due("penalise(.., true) again", x.penalise(couple, dance, true), true);
                Check.due("placed(.., 1)", x.placed(couple, dance, 1), 5);
                Check.due("placed(.., 1) in another dance", x.placed(couple, 2, 1), 4);
                Check.due("placed(.., 1) of another couple", x.placed(3, dance, 1), 4);
                Check.due("penalise(.., false)", x.penalise(couple, dance, false), true);
                Check.due("penalise(.., false) again", x.penalise(couple, dance, false), false);
                Check.due("placed(.., 1) without it", x.placed(couple, dance, 1), 4);
            }
        }
        // The sheets of all judges still count, with a penalty and without it.
        SkateSheet all = Halls.inFinal(3, 3, 1);
        Halls.tell(all, 0, 312, 231, 231);
        all.penalise(2, 0, true);
        duePlaced(all, 0, 0, 2, 0);
        all.penalise(2, 0, false);
        duePlaced(all, 0, 0, 2, 0);
        duePlaced(all, 2, 0, 4, 0);
        duePlaced(all, 1, 0, 6, 0);
    }

    // "m is the number of its SHEETS / 2, and 1", "what is divided is rounded down"
    private static void aMajorityIsHalfAndOne() {
        for (int sheets = 1; sheets <= 7; sheets++) {
            int m = new int[] {0, 1, 2, 2, 3, 3, 4, 4}[sheets];
            // With m marks of 1 the couple 0 is placed by these, whatever its others are.
            SkateSheet just = marksOfOne(m, sheets);
            duePlaced(just, 0, 0, 2, 0);
            // With one less it is not: 1 is placed before it.
            SkateSheet less = marksOfOne(m - 1, sheets);
            duePlaced(less, 1, 0, 2, 0);
            boolean even = sheets % 2 == 0;
            duePlaced(less, 0, 0, even ? 4 : 6, even ? 2 : 0);
            duePlaced(less, 2, 0, even ? 6 : 4, even ? 2 : 0);
        }
    }

    /** Three couples and so many sheets: in the first ones 0 has 1, 1 has 2; in the others 0 has 3, 1 has 1. */
    private static SkateSheet marksOfOne(int number, int sheets) {
        SkateSheet x = Halls.inFinal(3, 7, 1);
        for (int judge = 0; judge < sheets; judge++) {
            x.sheet(judge, 0, judge < number ? 321 : 213);
        }
        return x;
    }

    // "MARKS or more of p or better (that is p or a smaller number)"
    private static void aMarkOfPIsPOrBetter() {
        SkateSheet x = Halls.inFinal(4, 3, 1);
        // 0: 1 2 4, 1: 2 3 1, 2: 3 4 2, 3: 4 1 3.
        Halls.tell(x, 0, 4321, 1432, 3214);
        int[][] votes = {{1, 2, 2, 3}, {1, 2, 3, 3}, {0, 1, 2, 3}, {1, 1, 2, 3}};
        for (int couple = 0; couple < 4; couple++) {
            for (int p = 1; p <= 4; p++) {
                Check.due("votes(" + couple + ", 0, " + p + ")", x.votes(couple, 0, p), votes[couple][p - 1]);
            }
        }
        // Of p = 2 are 0 and 1, alike in number and sum; by p = 3 1 has a mark more.
        duePlaced(x, 1, 0, 2, 3);
        duePlaced(x, 0, 0, 4, 3);
        // Of p = 3 are 2 (3 2) and 3 (1 3).
        duePlaced(x, 3, 0, 6, 2);
        duePlaced(x, 2, 0, 8, 2);
    }

    // "who has more MARKS of p or better is ahead"
    private static void moreMarksAreAhead() {
        SkateSheet x = Halls.inFinal(4, 5, 1);
        // 0: 2 2 2 2 4, 1: 1 1 4 4 2: 0 has four of 2 with the sum 8, 1 three with the sum 4.
        Halls.tell(x, 0, 4312, 3412, 3142, 1342, 3124);
        duePlaced(x, 0, 0, 2, 1);
        duePlaced(x, 1, 0, 4, 1);
        // 2: 3 4 1 3 1 has four of 3, 3: 4 3 3 1 3 has four too; the sums are 8 and 10.
        duePlaced(x, 2, 0, 6, 2);
        duePlaced(x, 3, 0, 8, 2);
    }

    // "with as many, who has the smaller sum of these MARKS"
    private static void theSmallerSumIsAhead() {
        SkateSheet x = Halls.inFinal(4, 3, 1);
        // 0: 4 2 2, 1: 1 4 1, 2: 2 1 4, 3: 3 3 3. 1 is placed by 1; of 2 are 0 (2 2) and 2 (2 1).
        Halls.tell(x, 0, 3214, 3142, 3412);
        duePlaced(x, 1, 0, 2, 0);
        duePlaced(x, 2, 0, 4, 2);
        duePlaced(x, 0, 0, 6, 2);
        duePlaced(x, 3, 0, 8, 0);
    }

    // "with the same, the same two questions with p and 1 (of them both), and so on up to n"
    private static void laterMarksDecideUpToN() {
        // 0: 1 2 5, 1: 2 1 4: of 2 both have two marks with the sum 3, of 3 too, and of 4 1 has one more.
        SkateSheet x = Halls.inFinal(5, 3, 1);
        Halls.tell(x, 0, 54321, 53412, 12345);
        duePlaced(x, 1, 0, 2, 3);
        duePlaced(x, 0, 0, 4, 3);
        // Each has the marks 1 to 4 once: up to the last question, by n, they are alike.
        SkateSheet alike = Halls.inFinal(4, 5, 1);
        Halls.tell(alike, 0, 4321, 3412, 1234, 2143);
        for (int couple = 0; couple < 4; couple++) {
            duePlaced(alike, couple, 0, 5, 4);
        }
        // By p = n the sum is the last question: 0: 1 3, 2: 3 2 with two sheets.
        SkateSheet last = Halls.inFinal(3, 3, 1);
        Halls.tell(last, 0, 321, 213);
        duePlaced(last, 1, 0, 2, 0);
        duePlaced(last, 0, 0, 4, 2);
        duePlaced(last, 2, 0, 6, 2);
        // The same with as many as there can be. By two sheets 0: 1 8, 7: 8 2, 6: 7 7, 1: 2 6, and 2 to 5 before these.
        SkateSheet eight = Halls.inFinal(8, 3, 1);
        Halls.tell(eight, 0, 87654321, 27543168);
        // Of 7 there is 6 alone behind 1 to 5; of 8 0 has the sum 9, 7 the sum 10.
        duePlaced(eight, 6, 0, 12, 0);
        duePlaced(eight, 0, 0, 14, 2);
        duePlaced(eight, 7, 0, 16, 2);
        // By three sheets 0: 1 2 8 and 1: 2 1 7 are alike up to 6.
        SkateSheet seven = Halls.inFinal(8, 3, 1);
        Halls.tell(seven, 0, 87654321, 87654312, 65432178);
        duePlaced(seven, 1, 0, 2, 3);
        duePlaced(seven, 0, 0, 4, 3);
    }

    // "each of k that share has the mean of their k places", "a shared third and fourth one are 7"
    private static void kThatShareHaveTheMean() {
        SkateSheet two = Halls.inFinal(4, 3, 1);
        // 0: 1 1, 1: 2 2, 2: 3 4, 3: 4 3.
        Halls.tell(two, 0, 4321, 3421);
        duePlaced(two, 0, 0, 2, 0);
        duePlaced(two, 1, 0, 4, 0);
        duePlaced(two, 2, 0, 7, 4);
        duePlaced(two, 3, 0, 7, 4);
        SkateSheet three = Halls.inFinal(4, 3, 1);
        // 0: 1 1 1, 1: 2 3 4, 2: 3 4 2, 3: 4 2 3.
        Halls.tell(three, 0, 4321, 2431, 3241);
        duePlaced(three, 0, 0, 2, 0);
        for (int couple = 1; couple < 4; couple++) {
            duePlaced(three, couple, 0, 6, 4);
        }
        // All share by their sheets: 1 2 3 of each.
        SkateSheet all = Halls.inFinal(3, 3, 1);
        Halls.tell(all, 0, 321, 132, 213);
        for (int couple = 0; couple < 3; couple++) {
            duePlaced(all, couple, 0, 4, 4);
        }
        SkateSheet pair = finalOf(2);
        Halls.tell(pair, 0, 12, 21);
        duePlaced(pair, 0, 0, 3, 4);
        duePlaced(pair, 1, 0, 3, 4);
        SkateSheet pairs = Halls.inFinal(4, 3, 1);
        // 0 and 1 share, and behind them 2 and 3.
        Halls.tell(pairs, 0, 4321, 3412);
        duePlaced(pairs, 0, 0, 3, 4);
        duePlaced(pairs, 1, 0, 3, 4);
        duePlaced(pairs, 2, 0, 7, 4);
        duePlaced(pairs, 3, 0, 7, 4);
    }

    // "PENALISED ones SHARE the last places."
    private static void thePenalisedShareTheLastPlaces() {
        int[] halves = {0, 8, 7, 6, 5};
        for (int number = 1; number <= 4; number++) {
            SkateSheet x = Halls.inFinal(4, 3, 2);
            Halls.tell(x, 0, 4321, 4321, 4321);
            for (int couple = 0; couple < number; couple++) {
                x.penalise(couple, 0, true);
            }
            for (int couple = 0; couple < 4; couple++) {
                boolean is = couple < number;
                duePlaced(x, couple, 0, is ? halves[number] : 2 * (couple - number + 1), is ? 5 : 0);
                duePlaced(x, couple, 1, 5, 4);
            }
        }
    }

    // "the CANDIDATES are those not placed yet, not PENALISED"
    private static void thePenalisedAreNoCandidates() {
        SkateSheet x = Halls.inFinal(4, 3, 1);
        // 0: 1 2 2, 1: 2 1 3 are both of 2.
        Halls.tell(x, 0, 4321, 4312, 4132);
        duePlaced(x, 0, 0, 2, 1);
        x.penalise(1, 0, true);
        duePlaced(x, 0, 0, 2, 0);
        duePlaced(x, 1, 0, 8, 5);
        duePlaced(x, 2, 0, 4, 0);
        Check.due("votes(1, 0, 2) of a penalised one", x.votes(1, 0, 2), 2);
    }

    // "Without a SHEET all SHARE all places.", "5 PENALISED (also without a SHEET, with another 4)"
    private static void withoutASheetAllShare() {
        for (int number = 3; number <= 8; number++) {
            SkateSheet x = Halls.inFinal(number, 3, 1);
            x.penalise(1, 0, true);
            for (int couple = 0; couple < number; couple++) {
                duePlaced(x, couple, 0, number + 1, couple == 1 ? 5 : 4);
            }
            for (int couple = 0; couple < number; couple++) {
                x.penalise(couple, 0, true);
            }
            duePlaced(x, number - 1, 0, number + 1, 5);
        }
        SkateSheet two = finalOf(2);
        duePlaced(two, 0, 0, 3, 4);
        duePlaced(two, 1, 0, 3, 4);
    }

    // "otherwise by the other CANDIDATES of its p: 0 there is none; 1 ..; 2 ..; 3 the rest"
    private static void theReasonIsOfTheOtherCandidates() {
        SkateSheet x = Halls.inFinal(8, 5, 1);
        int[] sheets = {0, 0, 0, 0, 0};
        int[][] marks = {{1, 1, 4, 4, 2}, {2, 2, 2, 8, 8}, {3, 3, 3, 7, 7}, {8, 8, 1, 2, 1}, {7, 7, 5, 1, 3},
            {4, 4, 6, 3, 4}, {5, 5, 7, 5, 5}, {6, 6, 8, 6, 6}};
        for (int judge = 0; judge < 5; judge++) {
            for (int couple = 7; couple >= 0; couple--) {
                sheets[judge] = sheets[judge] * 10 + marks[couple][judge];
            }
        }
        Halls.tell(x, 0, sheets);
        // Of 2: 0 (1 1 2), 1 (2 2 2), 3 (1 2 1). 0 and 3 are alike till 4, where 0 has five marks.
        duePlaced(x, 0, 0, 2, 3);
        duePlaced(x, 3, 0, 4, 3);
        duePlaced(x, 1, 0, 6, 2);
        // Of 3: 2 alone.
        duePlaced(x, 2, 0, 8, 0);
        // Of 4: 5 alone (4 4 3 4); of 5: 4 (5 1 3) with three, 6 (5 5 5 5) with four.
        duePlaced(x, 5, 0, 10, 0);
        duePlaced(x, 6, 0, 12, 1);
        duePlaced(x, 4, 0, 14, 1);
        duePlaced(x, 7, 0, 16, 0);
    }

    // "IllegalStateException if no FINAL has begun" (to close)
    private static void closeNeedsAFinal() {
        Refusal.due(() -> Halls.hall(3, 3), Refusal.STATE, "close() without an event", SkateSheet::close);
        Refusal.due(() -> Halls.opened(3, 3, 1), Refusal.STATE, "close() before the final", SkateSheet::close);
        Refusal.due(() -> Halls.inRound(2, 1), Refusal.STATE, "close() in a round", SkateSheet::close);
        Refusal.due(() -> Halls.behindACut(1), Refusal.STATE, "close() behind a cut", SkateSheet::close);
        Refusal.due(() -> Halls.closed(3, 3), Refusal.STATE, "close() once more", SkateSheet::close);
    }

    // "as a FINAL has begun (whatever SHEETS there are)"
    private static void aFinalClosesWhateverSheetsThereAre() {
        Check.due("close() without a sheet", Halls.inFinal(3, 3, 2).close(), 0);
        Check.due("close() with some", Halls.finalOfFour().close(), 0);
        SkateSheet all = Halls.inFinal(8, 7, 5);
        for (int sheet = 0; sheet < 35; sheet++) {
            all.sheet(sheet % 7, sheet / 7, 87654321);
        }
        Check.due("close() with all", all.close(), 0);
        SkateSheet lost = Halls.inFinal(3, 3, 1);
        lost.sheet(0, 0, 123);
        lost.lose(0, 0);
        Check.due("close() with the only one lost", lost.close(), 0);
        Check.due("ofCouple(0, 2)", lost.ofCouple(0, 2), 5 * 4);
    }

    // "3 to 10: 0 without" and the next event, with nothing of the former one.
    private static void nothingIsLeftBehindTheClose() {
        SkateSheet x = Halls.finalOfFour();
        x.close();
        for (int what = 3; what <= 10; what++) {
            Check.due("many(" + what + ") behind the close", x.many(what), 0);
        }
        x.open(0b11110, 2);
        x.begin();
        for (int couple = 1; couple <= 4; couple++) {
            for (int dance = 0; dance < 2; dance++) {
                duePlaced(x, couple, dance, 5, 4);
                Check.due("penalise(.., false) in the next final", x.penalise(couple, dance, false), false);
                Check.due("votes(.., 4) in the next final", x.votes(couple, dance, 4), 0);
            }
        }
        for (int judge = 0; judge < 3; judge++) {
            Check.due("ofJudge(" + judge + ", 3) in the next final", x.ofJudge(judge, 3), 0);
        }
        Check.refused(x, "lose(0, 0) in the next final", Refusal.BOUNDS, () -> x.lose(0, 0));
    }
}
