/** The sentences of "2. Rounds" and of the promises 5 to 8 that name a boundary, a test each. */
public final class RoundBoundsTest {
    private RoundBoundsTest() {
    }

    public static void main(String[] args) {
        aQuotaIs2AtLeast();
        aQuotaIsLessThanThoseThatAreIn();
        thoseThatAreInAreCountedAnew();
        aSizeIs2To6();
        noRoundBeginsWithoutAnEvent();
        noRoundBeginsInAFinal();
        noRoundBeginsInARound();
        quotaAndSizeAreLookedAtFirst();
        roundsAreNumberedFrom1InAnEvent();
        dancesAreDancedOneByOne();
        noDanceIsDancedWithoutARound();
        heatsAreAsManyAsAreNeeded();
        aFullHeatTakesNobody();
        theSmallestSumOfMeetingsIsTaken();
        ofSeveralHeatsTheSmallestNumberIsTaken();
        meetingsAreOfPairsInOneHeat();
        meetingsAreForGood();
        noCrossIsGivenWithoutARound();
        aJudgeBesideThePanelGivesNoCross();
        aDanceThatWasNotDancedGetsNoCross();
        crossesGoToJustTheQuota();
        crossesGoToThoseThatAreIn();
        judgeAndDanceAreLookedAtFirst();
        crossesToldAgainReplaceTheFormer();
        crossesOfTheLastJudgeAndDance();
        noCutWithoutARound();
        noCutBeforeTheLastDance();
        theQuotaGoesOn();
        whoIsLikeTheLastGoesOn();
        withoutCrossesAllGoOn();
        crossesOfAllDancesCount();
        whoIsOutStaysSo();
        Check.end();
    }

    // "QUOTA (2 at least", "IllegalArgumentException if quota is below 2"
    private static void aQuotaIs2AtLeast() {
        for (int quota : new int[] {1, 0, -1, -2, Integer.MIN_VALUE, Integer.MIN_VALUE + 2}) {
            Refusal.due(() -> Halls.opened(6, 3, 1), Refusal.ILLEGAL, "round(" + quota + ", 2)",
                    x -> x.round(quota, 2));
        }
        SkateSheet x = Halls.opened(6, 3, 1);
        Check.due("round(2, 2)", x.round(2, 2), 1);
    }

    // "less than those that are IN", "IllegalStateException if .. quota is not less than those that are IN"
    private static void aQuotaIsLessThanThoseThatAreIn() {
        for (int number = 3; number <= 10; number++) {
            int couples = number;
            for (int quota : new int[] {number, number + 1, number + 32, Integer.MAX_VALUE}) {
                Refusal.due(() -> Halls.opened(couples, 3, 1), Refusal.STATE, "round(" + quota + ", 2) of " + number,
                        x -> x.round(quota, 2));
            }
            SkateSheet x = Halls.opened(couples, 3, 1);
            Check.due("round(" + (number - 1) + ", 2) of " + number, x.round(number - 1, 2), 1);
        }
        // Four couples are told, but only three of them are entered.
        SkateSheet x = Halls.hall(4, 3);
        x.open(14, 1);
        Check.refused(x, "round(3, 2) of three", Refusal.STATE, () -> x.round(3, 2));
        Check.due("round(2, 2) of three", x.round(2, 2), 1);
    }

    // "those that are IN": who is OUT does not count for the next QUOTA.
    private static void thoseThatAreInAreCountedAnew() {
        Refusal.due(() -> Halls.behindACut(1), Refusal.STATE, "round(4, 2) of four", x -> x.round(4, 2));
        SkateSheet x = Halls.behindACut(1);
        Check.due("round(3, 2) of four", x.round(3, 2), 2);
        Refusal.State two = () -> inWith(3, 0b11);
        Check.due("many(8) of two", two.made().many(8), 3);
        Refusal.due(two, Refusal.STATE, "round(2, 2) of two", y -> y.round(2, 2));
    }

    /** So many couples of which those in the set go on behind a round of one dance. */
    private static SkateSheet inWith(int couples, int set) {
        SkateSheet x = Halls.opened(couples, 3, 1);
        x.round(Integer.bitCount(set), 6);
        x.dance();
        x.cross(0, 0, set);
        x.cut();
        return x;
    }

    // "a SIZE (2 to 6)", "IllegalArgumentException if .. size not 2 to 6"
    private static void aSizeIs2To6() {
        for (int size : Refusal.outside(2, 6)) {
            Refusal.due(() -> Halls.opened(6, 3, 1), Refusal.ILLEGAL, "round(2, " + size + ")",
                    x -> x.round(2, size));
        }
        for (int size = 2; size <= 6; size++) {
            SkateSheet x = Halls.opened(6, 3, 1);
            Check.due("round(2, " + size + ")", x.round(2, size), 1);
        }
    }

    // "IllegalStateException if no EVENT is open" (a round)
    private static void noRoundBeginsWithoutAnEvent() {
        Refusal.due(() -> Halls.hall(6, 3), Refusal.STATE, "round(2, 2) before an event", x -> x.round(2, 2));
        Refusal.due(() -> Halls.closed(6, 3), Refusal.STATE, "round(2, 2) behind an event", x -> x.round(2, 2));
    }

    // "IllegalStateException if .. a FINAL has begun" (a round)
    private static void noRoundBeginsInAFinal() {
        Refusal.due(Halls::finalOfFour, Refusal.STATE, "round(2, 2) in a final", x -> x.round(2, 2));
    }

    // "IllegalStateException if .. a ROUND was begun and not CUT" (a round)
    private static void noRoundBeginsInARound() {
        for (int number = 0; number <= 2; number++) {
            int danced = number;
            Refusal.due(() -> Halls.inRound(2, danced), Refusal.STATE, "round(2, 2) with dances: " + danced,
                    x -> x.round(2, 2));
        }
        Check.due("round(2, 2) behind the cut", Halls.behindACut(2).round(2, 2), 2);
    }

    // "If several exceptions apply, the one that is named first is thrown." (a round)
    private static void quotaAndSizeAreLookedAtFirst() {
        int[][] wrong = {{1, 2}, {2, 1}, {2, 7}, {10, 1}, {10, 7}, {1, 7}};
        for (int[] told : wrong) {
            String text = "round(" + told[0] + ", " + told[1] + ")";
            Refusal.Call call = x -> x.round(told[0], told[1]);
            Refusal.due(() -> Halls.hall(6, 3), Refusal.ILLEGAL, text + " without an event", call);
            Refusal.due(() -> Halls.inRound(2, 1), Refusal.ILLEGAL, text + " in a round", call);
            Refusal.due(Halls::finalOfFour, Refusal.ILLEGAL, text + " in a final", call);
            Refusal.due(() -> Halls.opened(6, 3, 1), Refusal.ILLEGAL, text + " of six", call);
        }
    }

    // "that ROUND (numbered from 1 in an EVENT)", "many 5 ROUNDS of that EVENT"
    private static void roundsAreNumberedFrom1InAnEvent() {
        SkateSheet x = Halls.hall(5, 3);
        for (int event = 0; event < 2; event++) {
            x.open(31, 1);
            Check.due("many(5) before a round", x.many(5), 0);
            for (int number = 1; number <= 3; number++) {
                Check.due("round(2, 6)", x.round(2, 6), number);
                Check.due("many(5)", x.many(5), number);
                Check.outcome(() -> x.round(2, 6));
                Check.due("many(5) behind a refused one", x.many(5), number);
                Halls.finishRound(x);
                Check.due("many(5) behind the cut", x.many(5), number);
            }
            x.begin();
            Check.due("many(5) in the final", x.many(5), 3);
            x.close();
            Check.due("many(5) behind the event", x.many(5), 0);
        }
    }

    // "Its DANCES are danced in their order, one by one.", "IllegalStateException if .. all its DANCES were danced"
    private static void dancesAreDancedOneByOne() {
        for (int dances = 1; dances <= 5; dances++) {
            int all = dances;
            SkateSheet x = Halls.opened(6, 3, dances);
            x.round(3, 4);
            for (int danced = 0; danced < dances; danced++) {
                Check.due("many(7)", x.many(7), danced);
                Check.due("dance()", x.dance(), 2);
            }
            Check.due("many(7) behind the last one", x.many(7), dances);
            Refusal.due(() -> Halls.inRound(all, all), Refusal.STATE, "dance() behind the last of " + dances,
                    SkateSheet::dance);
        }
    }

    // "IllegalStateException if there is no ROUND that is not CUT" (a dance)
    private static void noDanceIsDancedWithoutARound() {
        Refusal.due(() -> Halls.hall(6, 3), Refusal.STATE, "dance() without an event", SkateSheet::dance);
        Refusal.due(() -> Halls.opened(6, 3, 2), Refusal.STATE, "dance() without a round", SkateSheet::dance);
        Refusal.due(() -> Halls.behindACut(2), Refusal.STATE, "dance() behind the cut", SkateSheet::dance);
        Refusal.due(Halls::finalOfFour, Refusal.STATE, "dance() in a final", SkateSheet::dance);
        Refusal.due(() -> Halls.closed(6, 3), Refusal.STATE, "dance() behind the event", SkateSheet::dance);
    }

    // "HEATS (numbered from 0): as many as are needed with SIZE in each at most"
    private static void heatsAreAsManyAsAreNeeded() {
        for (int number = 3; number <= 10; number++) {
            for (int size = 2; size <= 6; size++) {
                SkateSheet x = Halls.opened(number, 3, 1);
                x.round(2, size);
                int needed = 1;
                while (needed * size < number) {
                    needed++;
                }
                Check.due("dance() of " + number + " by " + size, x.dance(), needed);
                // Nobody met before: each goes into the first heat that is not full.
                for (int couple = 0; couple < number; couple++) {
                    Check.due("ofCouple(" + couple + ", 7)", x.ofCouple(couple, 7), couple / size);
                }
            }
        }
    }

    private static void dueHeats(SkateSheet x, int number, int... heats) {
        Check.due("dance()", x.dance(), number);
        for (int couple = 0; couple < heats.length; couple++) {
            Check.due("ofCouple(" + couple + ", 7)", x.ofCouple(couple, 7), heats[couple]);
        }
    }

    /** Lets two of ten couples meet so many times more, in events with the couple 9 alone in their heat. */
    private static void meet(SkateSheet x, int one, int other, int times) {
        for (int i = 0; i < times; i++) {
            x.open(1 << one | 1 << other | 1 << 9, 1);
            x.round(2, 3);
            Halls.finishRound(x);
            x.begin();
            x.close();
        }
    }

    /** A hall of ten in which 0 has met 1, 2 and 3 so often. */
    private static SkateSheet fourHaveMet(int with1, int with2, int with3) {
        SkateSheet x = Halls.hall(10, 3);
        meet(x, 0, 1, with1);
        meet(x, 0, 2, with2);
        meet(x, 0, 3, with3);
        return x;
    }

    private static void dueHeatsOfFour(SkateSheet x, int size, int... heats) {
        x.open(15, 1);
        x.round(2, size);
        dueHeats(x, 2, heats);
    }

    // "of those with less than SIZE"
    private static void aFullHeatTakesNobody() {
        SkateSheet x = fourHaveMet(1, 0, 0);
        meet(x, 1, 3, 1);
        // 3 met nobody of the heat 0, but that is full with 0 and 2; so it goes to 1, whom it met.
        dueHeatsOfFour(x, 2, 0, 1, 0, 1);
        SkateSheet three = fourHaveMet(1, 0, 0);
        meet(three, 1, 3, 1);
        // With a place more in each heat, 3 is free to go to the heat 0.
        dueHeatsOfFour(three, 3, 0, 1, 0, 0);
    }

    // "in which it has the smallest sum of MEETINGS with those that are in it already"
    private static void theSmallestSumOfMeetingsIsTaken() {
        SkateSheet x = fourHaveMet(2, 1, 1);
        // All part from 0, and have met none of the heat 1.
        dueHeatsOfFour(x, 3, 0, 1, 1, 1);
        SkateSheet one = fourHaveMet(1, 1, 1);
        meet(one, 1, 3, 3);
        // For 3 it is 1 against 3 and 0.
        dueHeatsOfFour(one, 3, 0, 1, 1, 0);
        SkateSheet more = fourHaveMet(1, 1, 3);
        meet(more, 1, 3, 2);
        meet(more, 2, 3, 2);
        // For 3 it is 3 against 2 and 2.
        dueHeatsOfFour(more, 3, 0, 1, 1, 0);
        SkateSheet less = fourHaveMet(1, 1, 3);
        meet(less, 1, 3, 1);
        meet(less, 2, 3, 1);
        // For 3 it is 3 against 1 and 1.
        dueHeatsOfFour(less, 3, 0, 1, 1, 1);
    }

    // "of several the smallest number"
    private static void ofSeveralHeatsTheSmallestNumberIsTaken() {
        SkateSheet x = fourHaveMet(1, 1, 2);
        meet(x, 1, 2, 1);
        meet(x, 1, 3, 2);
        // For 2 it is 1 against 1, for 3 (beside 2, whom it did not meet) 2 against 2.
        dueHeatsOfFour(x, 3, 0, 1, 0, 0);
    }

    // "each pair of COUPLES in one HEAT has one of MEETINGS more (0 at first"
    private static void meetingsAreOfPairsInOneHeat() {
        SkateSheet x = Halls.hall(7, 3);
        x.open(0b111110, 1);
        for (int one = 0; one < 7; one++) {
            for (int other = 0; other < 7; other++) {
                Check.due("meetings at first", x.meetings(one, other), 0);
            }
        }
        x.round(2, 3);
        x.dance();
        // The heats are 1 2 3 and 4 5; 0 and 6 are not entered.
        for (int one = 0; one < 7; one++) {
            for (int other = 0; other < 7; other++) {
                boolean first = one >= 1 && one <= 3 && other >= 1 && other <= 3;
                boolean second = one >= 4 && one <= 5 && other >= 4 && other <= 5;
                int want = one != other && (first || second) ? 1 : 0;
                Check.due("meetings(" + one + ", " + other + ")", x.meetings(one, other), want);
            }
        }
        // As many heats as there can be: five pairs of ten.
        SkateSheet ten = Halls.opened(10, 3, 1);
        ten.round(2, 2);
        ten.dance();
        for (int one = 0; one < 10; one++) {
            for (int other = 0; other < 10; other++) {
                int want = one != other && one / 2 == other / 2 ? 1 : 0;
                Check.due("meetings(" + one + ", " + other + ") of ten", ten.meetings(one, other), want);
            }
        }
    }

    // "one of MEETINGS more (.. for good)"
    private static void meetingsAreForGood() {
        SkateSheet x = Halls.hall(3, 3);
        int met = 0;
        for (int event = 0; event < 2; event++) {
            x.open(7, 2);
            for (int round = 0; round < 2; round++) {
                x.round(2, 3);
                for (int dance = 0; dance < 2; dance++) {
                    x.dance();
                    met++;
                    Check.due("meetings(0, 2)", x.meetings(0, 2), met);
                }
                x.cut();
                Check.due("meetings(2, 1) behind the cut", x.meetings(2, 1), met);
            }
            x.begin();
            x.close();
            Check.due("meetings(2, 0) behind the event", x.meetings(2, 0), met);
        }
        Check.due("meetings(1, 1)", x.meetings(1, 1), 0);
        // Who is out meets nobody more.
        SkateSheet out = Halls.behindACut(1);
        Check.due("meetings(4, 5)", out.meetings(4, 5), 1);
        out.round(2, 6);
        out.dance();
        Check.due("meetings(4, 5) of two that are out", out.meetings(4, 5), 1);
        Check.due("meetings(0, 4)", out.meetings(0, 4), 0);
        Check.due("meetings(0, 1) of two that are in", out.meetings(0, 1), 2);
    }

    // "IndexOutOfBoundsException if there is no ROUND that is not CUT" (crosses)
    private static void noCrossIsGivenWithoutARound() {
        Refusal.Call call = x -> x.cross(0, 0, 7);
        Refusal.due(() -> Halls.hall(6, 3), Refusal.BOUNDS, "cross(0, 0, 7) without an event", call);
        Refusal.due(() -> Halls.opened(6, 3, 1), Refusal.BOUNDS, "cross(0, 0, 7) without a round", call);
        Refusal.due(() -> Halls.behindACut(1), Refusal.BOUNDS, "cross(0, 0, 7) behind the cut", call);
        Refusal.due(Halls::finalOfFour, Refusal.BOUNDS, "cross(0, 0, 7) in a final", call);
        Refusal.due(() -> Halls.closed(6, 3), Refusal.BOUNDS, "cross(0, 0, 7) behind the event", call);
    }

    // "IndexOutOfBoundsException if .. the JUDGE is not of the PANEL" (crosses)
    private static void aJudgeBesideThePanelGivesNoCross() {
        for (int judge : Refusal.outside(0, 2)) {
            Refusal.due(() -> Halls.inRound(2, 1), Refusal.BOUNDS, "cross(" + judge + ", 0, 7)",
                    x -> x.cross(judge, 0, 7));
        }
        Refusal.State four = () -> {
            SkateSheet x = Halls.opened(6, 4, 1);
            x.round(3, 6);
            x.dance();
            return x;
        };
        Refusal.due(four, Refusal.BOUNDS, "cross(3, 0, 7) of the one too many", x -> x.cross(3, 0, 7));
        Refusal.State own = () -> {
            SkateSheet x = clubsOfJudges(0, 1, 1, 1);
            x.round(3, 6);
            x.dance();
            return x;
        };
        Refusal.due(own, Refusal.BOUNDS, "cross(0, 0, 7) of one of their club", x -> x.cross(0, 0, 7));
        for (int judge = 1; judge <= 3; judge++) {
            Check.due("cross(" + judge + ", 0, 7)", own.made().cross(judge, 0, 7), 3);
        }
    }

    /** An event of six couples of the club 0 before judges of these clubs. */
    private static SkateSheet clubsOfJudges(int... clubs) {
        SkateSheet x = Halls.hall(6, 0);
        for (int club : clubs) {
            x.judge(club);
        }
        x.open(63, 1);
        return x;
    }

    // "IndexOutOfBoundsException if .. that DANCE was not danced in it"
    private static void aDanceThatWasNotDancedGetsNoCross() {
        for (int number = 0; number <= 5; number++) {
            int danced = number;
            for (int dance = 0; dance < danced; dance++) {
                Check.due("cross of the dance " + dance + " of " + danced,
                        Halls.inRound(5, danced).cross(1, dance, 56), 4);
            }
            for (int dance : Refusal.outside(0, danced - 1)) {
                Refusal.due(() -> Halls.inRound(5, danced), Refusal.BOUNDS,
                        "cross(0, " + dance + ", 7) of " + danced, x -> x.cross(0, dance, 7));
            }
        }
        // It was danced in the round before, but not in this one.
        Refusal.State next = () -> {
            SkateSheet x = Halls.behindACut(2);
            x.round(2, 6);
            return x;
        };
        Refusal.due(next, Refusal.BOUNDS, "cross(0, 0, 3) of the former round", x -> x.cross(0, 0, 3));
        SkateSheet x = next.made();
        x.dance();
        Check.due("cross(0, 0, 3)", x.cross(0, 0, 3), 2);
        Check.refused(x, "cross(0, 1, 3) of the former round", Refusal.BOUNDS, () -> x.cross(0, 1, 3));
    }

    // "IllegalArgumentException if couples are not just QUOTA"
    private static void crossesGoToJustTheQuota() {
        for (int couples = 0; couples < 64; couples++) {
            int set = couples;
            if (Integer.bitCount(couples) == 3) {
                SkateSheet x = Halls.inRound(2, 1);
                int first = Integer.bitCount(couples & 7);
                int third = Integer.bitCount(couples & 14);
                Check.due("cross(1, 0, " + couples + ")", x.cross(1, 0, couples), 3 + first + third);
            } else {
                SkateSheet x = Halls.inRound(2, 1);
                Check.refused(x, "cross(1, 0, " + couples + ")", Refusal.ILLEGAL, () -> x.cross(1, 0, set));
            }
        }
        for (int couples : new int[] {0, 1, 3, 15, 63}) {
            Refusal.due(() -> Halls.inRound(2, 1), Refusal.ILLEGAL, "cross(0, 0, " + couples + ")",
                    x -> x.cross(0, 0, couples));
        }
    }

    // "IllegalArgumentException if couples are not .. of those that are IN"
    private static void crossesGoToThoseThatAreIn() {
        for (int couples : new int[] {64 + 3, 512 + 3, 1024 + 3, Integer.MIN_VALUE + 3, 7 << 6, 7 << 29, -1, 64 + 7,
            Integer.MIN_VALUE + 7}) {
            Refusal.due(() -> Halls.inRound(2, 1), Refusal.ILLEGAL, "cross(0, 0, " + couples + ") of six",
                    x -> x.cross(0, 0, couples));
        }
        // 4 and 5 are out since the round 1.
        Refusal.State next = () -> {
            SkateSheet x = Halls.behindACut(1);
            x.round(2, 6);
            x.dance();
            return x;
        };
        for (int couples : new int[] {16 + 1, 32 + 1, 48, 16 + 3}) {
            Refusal.due(next, Refusal.ILLEGAL, "cross(0, 0, " + couples + ") of four",
                    x -> x.cross(0, 0, couples));
        }
        Check.due("cross(0, 0, 12)", next.made().cross(0, 0, 12), 2);
        // 0 is told, but not entered.
        SkateSheet x = Halls.hall(5, 3);
        x.open(0b11110, 1);
        x.round(2, 6);
        x.dance();
        Check.refused(x, "cross(0, 0, 3)", Refusal.ILLEGAL, () -> x.cross(0, 0, 3));
        Check.due("cross(0, 0, 6)", x.cross(0, 0, 6), 2);
    }

    // "If several exceptions apply, the one that is named first is thrown." (crosses)
    private static void judgeAndDanceAreLookedAtFirst() {
        for (int couples : new int[] {0, 3, 15, 64 + 3, -1}) {
            String set = ", " + couples + ")";
            Refusal.due(() -> Halls.inRound(2, 1), Refusal.BOUNDS, "cross(3, 0" + set, x -> x.cross(3, 0, couples));
            Refusal.due(() -> Halls.inRound(2, 1), Refusal.BOUNDS, "cross(-1, 0" + set, x -> x.cross(-1, 0, couples));
            Refusal.due(() -> Halls.inRound(2, 1), Refusal.BOUNDS, "cross(0, 1" + set, x -> x.cross(0, 1, couples));
            Refusal.due(() -> Halls.inRound(2, 1), Refusal.BOUNDS, "cross(0, -1" + set, x -> x.cross(0, -1, couples));
            Refusal.due(() -> Halls.behindACut(2), Refusal.BOUNDS, "cross(0, 0" + set, x -> x.cross(0, 0, couples));
            Refusal.due(() -> Halls.hall(6, 3), Refusal.BOUNDS, "cross(0, 0" + set, x -> x.cross(0, 0, couples));
        }
    }

    // "if told again, these count in place of the former ones"
    private static void crossesToldAgainReplaceTheFormer() {
        SkateSheet x = Halls.opened(6, 3, 1);
        x.round(3, 6);
        x.dance();
        Check.due("cross(0, 0, 7)", x.cross(0, 0, 7), 3);
        Check.due("cross(0, 0, 7) told again", x.cross(0, 0, 7), 3);
        Check.due("cross(0, 0, 56) told again", x.cross(0, 0, 56), 3);
        Check.due("ofCouple(0, 6)", x.ofCouple(0, 6), 0);
        Check.due("ofCouple(5, 6)", x.ofCouple(5, 6), 1);
        Check.due("cross(1, 0, 56) of another one", x.cross(1, 0, 56), 6);
    }

    // The greatest numbers that there can be: seven judges, five dances, ten couples, the quota 9.
    private static void crossesOfTheLastJudgeAndDance() {
        SkateSheet x = Halls.opened(10, 7, 5);
        x.round(9, 2);
        for (int dance = 0; dance < 5; dance++) {
            Check.due("dance()", x.dance(), 5);
            for (int judge = 0; judge < 7; judge++) {
                Check.due("cross(" + judge + ", " + dance + ", 1022)", x.cross(judge, dance, 1022), 9 * judge + 9);
            }
        }
        Check.due("ofCouple(9, 6)", x.ofCouple(9, 6), 35);
        Check.due("ofCouple(0, 6)", x.ofCouple(0, 6), 0);
        Check.due("cross(6, 4, 511)", x.cross(6, 4, 511), 6 * 8 + 9);
        Check.due("ofCouple(9, 6)", x.ofCouple(9, 6), 34);
        Check.due("ofCouple(0, 6)", x.ofCouple(0, 6), 1);
        Check.due("cut()", x.cut(), 9);
        Check.due("many(8)", x.many(8), 1022);
    }

    // "IllegalStateException if there is no ROUND that is not CUT" (a cut)
    private static void noCutWithoutARound() {
        Refusal.due(() -> Halls.hall(6, 3), Refusal.STATE, "cut() without an event", SkateSheet::cut);
        Refusal.due(() -> Halls.opened(6, 3, 1), Refusal.STATE, "cut() without a round", SkateSheet::cut);
        Refusal.due(() -> Halls.behindACut(1), Refusal.STATE, "cut() behind the cut", SkateSheet::cut);
        Refusal.due(Halls::finalOfFour, Refusal.STATE, "cut() in a final", SkateSheet::cut);
        Refusal.due(() -> Halls.closed(6, 3), Refusal.STATE, "cut() behind the event", SkateSheet::cut);
    }

    // "IllegalStateException if .. not all its DANCES were danced"
    private static void noCutBeforeTheLastDance() {
        for (int dances = 1; dances <= 5; dances++) {
            int all = dances;
            for (int number = 0; number < dances; number++) {
                int danced = number;
                Refusal.due(() -> Halls.inRound(all, danced), Refusal.STATE,
                        "cut() behind " + danced + " of " + all, SkateSheet::cut);
            }
            Check.due("cut() behind all of " + all, Halls.inRound(all, all).cut(), 4);
        }
    }

    /** Six couples in a round of one dance with this quota, cut by these crosses of the judges 0, 1, .. */
    private static SkateSheet cutBy(int quota, int... crosses) {
        SkateSheet x = Halls.opened(6, 7, 1);
        x.round(quota, 6);
        x.dance();
        for (int judge = 0; judge < crosses.length; judge++) {
            x.cross(judge, 0, crosses[judge]);
        }
        return x;
    }

    private static void dueCut(int set, int quota, int... crosses) {
        SkateSheet x = cutBy(quota, crosses);
        Check.due("cut()", x.cut(), Integer.bitCount(set));
        Check.due("many(8) behind the cut", x.many(8), set);
        for (int couple = 0; couple < 6; couple++) {
            Check.due("ofCouple(" + couple + ", 5)", x.ofCouple(couple, 5), (set & 1 << couple) != 0 ? 0 : 1);
        }
    }

    // "Those go on that are among the QUOTA with most CROSSES"
    private static void theQuotaGoesOn() {
        // 0: 3, 1: 2, 2: 1.
        dueCut(0b11, 2, 0b11, 0b11, 0b101);
        // 4 and 5 have three each, and are alike among themselves alone.
        dueCut(0b110000, 2, 0b110000, 0b110000, 0b110000);
        // With the quota 5 of six, 3 is the only one without a cross.
        dueCut(0b110111, 5, 0b110111);
        // The first ones may be alike: 0 and 1 have three, 2 two, 3 one.
        dueCut(0b111, 3, 0b111, 0b111, 0b1011);
    }

    // "if some have as many as the last one of these, all of them go on"
    private static void whoIsLikeTheLastGoesOn() {
        // 0: 3, 1 to 3: 1.
        dueCut(0b1111, 2, 0b11, 0b101, 0b1001);
        // 0, 1 and 2 have two each.
        dueCut(0b111, 2, 0b11, 0b101, 0b110);
        // All have one.
        dueCut(0b111111, 2, 0b11, 0b1100, 0b110000);
        // 0: 3, 1: 2, 2 and 5: 2 too, 3 and 4: none. The last one of the quota of 3 has two.
        dueCut(0b100111, 3, 0b111, 0b100011, 0b100101);
        // 0: 2, 1: 2, 2: 1, 3: 1: these are behind the quota, so they are out.
        dueCut(0b11, 2, 0b11, 0b101, 0b1010);
    }

    // The same without any CROSSES: all have as many as the last one.
    private static void withoutCrossesAllGoOn() {
        dueCut(0b111111, 2);
        dueCut(0b111111, 5);
    }

    // "a COUPLE has so many CROSSES as in all DANCES together"
    private static void crossesOfAllDancesCount() {
        SkateSheet x = Halls.opened(6, 3, 5);
        x.round(2, 6);
        for (int dance = 0; dance < 5; dance++) {
            x.dance();
            x.cross(dance % 3, dance, 1 << dance | 32);
        }
        // 5 has a cross in each dance, the others one each in all.
        Check.due("ofCouple(5, 6)", x.ofCouple(5, 6), 5);
        x.cross(0, 4, 0b11);
        // Now 0 has two, 1 too.
        Check.due("ofCouple(0, 6)", x.ofCouple(0, 6), 2);
        Check.due("cut()", x.cut(), 3);
        Check.due("many(8)", x.many(8), 0b100011);
    }

    // "Who does not is OUT in that ROUND"
    private static void whoIsOutStaysSo() {
        SkateSheet x = Halls.behindACut(1);
        x.round(3, 6);
        x.dance();
        x.cross(0, 0, 0b1110);
        Check.due("cut()", x.cut(), 3);
        x.round(2, 6);
        x.dance();
        x.cross(0, 0, 0b1100);
        Check.due("cut()", x.cut(), 2);
        int[] outIn = {2, 3, 0, 0, 1, 1};
        x.begin();
        for (int couple = 0; couple < 6; couple++) {
            Check.due("ofCouple(" + couple + ", 5)", x.ofCouple(couple, 5), outIn[couple]);
            Check.due("ofCouple(" + couple + ", 3)", x.ofCouple(couple, 3), 1);
            Check.due("ofCouple(" + couple + ", 4)", x.ofCouple(couple, 4), outIn[couple] == 0 ? 1 : 0);
        }
    }
}
