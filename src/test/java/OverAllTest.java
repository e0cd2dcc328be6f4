/** Promise 19, and what closing an event leaves: points, standings, levels and drift (promises 13, 14, 16, 21). */
public final class OverAllTest {
    private static final Class<?> ILLEGAL = IllegalArgumentException.class;
    private static final Class<?> BOUNDS = IndexOutOfBoundsException.class;

    private OverAllTest() {
    }

    public static void main(String[] args) {
        byTotals();
        byRule10();
        byRule11();
        sharedOverAll();
        theMarksOfThePenalisedCount();
        behindTheShared();
        resultRefuses();
        pointsAndStandings();
        theThreeGreatestOfFiveCount();
        theGreatestCountInAnyOrder();
        levelsRise();
        judgesDrift();
        Check.end();
    }

    private static void dueResult(SkateSheet x, int couple, int place, int reason, int total) {
        Check.due("result(" + couple + ", 0)", x.result(couple, 0), place);
        Check.due("result(" + couple + ", 1)", x.result(couple, 1), reason);
        Check.due("result(" + couple + ", 2)", x.result(couple, 2), total);
    }

    private static void tellAll(SkateSheet x, int dance, int sheet) {
        Halls.tell(x, dance, sheet, sheet, sheet);
    }

    private static void byTotals() {
        SkateSheet x = Halls.inFinal(3, 3, 2);
        tellAll(x, 0, 213);
        tellAll(x, 1, 213);
        dueResult(x, 0, 6, 9, 12);
        dueResult(x, 1, 2, 9, 4);
        dueResult(x, 2, 4, 9, 8);
    }

    private static void byRule10() {
        SkateSheet x = Halls.inFinal(4, 3, 2);
        // Places 0: 1 4, 1: 2 3, 2: 3 1, 3: 4 2. Of 0 and 1 each has one of 2 or better, 0 with the smaller sum.
        tellAll(x, 0, 4321);
        tellAll(x, 1, 2134);
        dueResult(x, 2, 2, 9, 8);
        dueResult(x, 0, 4, 10, 10);
        dueResult(x, 1, 6, 10, 10);
        dueResult(x, 3, 8, 9, 12);
        SkateSheet more = Halls.inFinal(4, 3, 3);
        // Places 0: 1 1 4, 1: 2 3 1, 2: 3 2 2, 3: 4 4 3. By 1 or better 0 has two of them, 1 only one.
        tellAll(more, 0, 4321);
        tellAll(more, 1, 4231);
        tellAll(more, 2, 3214);
        dueResult(more, 0, 2, 10, 12);
        dueResult(more, 1, 4, 10, 12);
        dueResult(more, 2, 6, 9, 14);
    }

    private static void byRule11() {
        SkateSheet x = Halls.inFinal(3, 3, 2);
        // Places 0: 1 2, 1: 2 1. Of all marks 0 has four of 1, 1 has two.
        tellAll(x, 0, 321);
        Halls.tell(x, 1, 312, 312, 321);
        dueResult(x, 0, 2, 11, 6);
        dueResult(x, 1, 4, 10, 6);
        dueResult(x, 2, 6, 9, 12);
    }

    private static void sharedOverAll() {
        SkateSheet x = Halls.inFinal(3, 3, 2);
        tellAll(x, 0, 321);
        tellAll(x, 1, 312);
        dueResult(x, 0, 3, 12, 6);
        dueResult(x, 1, 3, 12, 6);
        dueResult(x, 2, 6, 9, 12);
        SkateSheet none = Halls.inFinal(4, 3, 2);
        dueResult(none, 3, 5, 12, 10);
    }

    private static void theMarksOfThePenalisedCount() {
        SkateSheet x = Halls.inFinal(3, 3, 2);
        // Places 0: 3 (penalised) 1, 1: 1 3, 2: 2 2. By rule 10 0 and 1 are ahead as much; 0 has more marks of 1, two
        // of them where it is penalised. Then 2 is ahead of 1 by its two places of 2 or better.
        Halls.tell(x, 0, 321, 321, 213);
        Halls.tell(x, 1, 231, 231, 312);
        x.penalise(0, 0, true);
        dueResult(x, 0, 2, 11, 8);
        dueResult(x, 2, 4, 10, 8);
        dueResult(x, 1, 6, 10, 8);
    }

    private static void behindTheShared() {
        SkateSheet x = Halls.inFinal(4, 3, 2);
        // Places 0: 1 4, 1: 4 1, 2: 2 3, 3: 3 2, all with the total 5: 0 and 1 share by rule 11, then 2 and 3 do.
        tellAll(x, 0, 3241);
        tellAll(x, 1, 2314);
        dueResult(x, 0, 3, 12, 10);
        dueResult(x, 1, 3, 12, 10);
        dueResult(x, 2, 7, 12, 10);
        dueResult(x, 3, 7, 12, 10);
    }

    private static void resultRefuses() {
        SkateSheet none = Halls.hall(3, 3);
        none.open(7, 1);
        Check.refused(none, "result(0, 0) before the final", BOUNDS, () -> none.result(0, 0));
        SkateSheet x = Halls.hall(4, 3);
        x.open(14, 1);
        x.begin();
        Check.refused(x, "result(0, 0) of one that is not in", BOUNDS, () -> x.result(0, 0));
        Check.refused(x, "result(0, 3)", BOUNDS, () -> x.result(0, 3));
        Check.refused(x, "result(-1, 0)", BOUNDS, () -> x.result(-1, 0));
        Check.refused(x, "result(1, 3)", ILLEGAL, () -> x.result(1, 3));
        Check.refused(x, "result(1, -1)", ILLEGAL, () -> x.result(1, -1));
    }

    private static void dueStandings(SkateSheet x, int... standings) {
        int sum = 0;
        for (int couple = 0; couple < standings.length; couple++) {
            Check.due("ofCouple(" + couple + ", 2)", x.ofCouple(couple, 2), standings[couple]);
            sum += standings[couple];
        }
        Check.due("meanStanding()", x.meanStanding(), (double) sum / standings.length);
    }

    private static void pointsAndStandings() {
        SkateSheet x = Halls.hall(6, 3);
        x.open(31, 1);
        x.round(4, 6);
        x.dance();
        x.cross(0, 0, 15);
        x.cut();
        x.round(3, 6);
        x.dance();
        x.cross(0, 0, 7);
        x.cut();
        x.begin();
        tellAll(x, 0, 321);
        dueStandings(x, 0, 0, 0, 0, 0, 0);
        x.close();
        // Five were entered: 12 less 2, 4, 6; 3 was out in the round 2, 4 in the round 1; 5 was not entered.
        dueStandings(x, 50, 40, 30, 5, 0, 0);
        x.open(56, 1);
        x.begin();
        x.close();
        // All three share: 8 less 4. The first event counts four times now.
        dueStandings(x, 40, 32, 24, 24, 20, 20);
        Check.due("ofCouple(3, 1)", x.ofCouple(3, 1), 0);
    }

    private static void theThreeGreatestOfFiveCount() {
        SkateSheet x = Halls.hall(4, 3);
        int[] want = {30, 54, 72, 72, 72, 72};
        for (int event = 0; event < 6; event++) {
            x.open(7, 1);
            x.begin();
            tellAll(x, 0, 321);
            x.close();
            Check.due("ofCouple(0, 2) behind the event " + event, x.ofCouple(0, 2), want[event]);
        }
        // 0 stays away: what it won ages, and an event of 5 ago counts no more.
        int[] aged = {54, 36, 18, 6, 0};
        for (int event = 0; event < 5; event++) {
            x.open(14, 1);
            x.begin();
            x.close();
            Check.due("ofCouple(0, 2) so many events behind: " + (event + 1), x.ofCouple(0, 2), aged[event]);
        }
        Check.due("ofCouple(0, 1)", x.ofCouple(0, 1), 3);
    }

    private static void theGreatestCountInAnyOrder() {
        SkateSheet x = Halls.hall(6, 3);
        int[] entered = {0b111, 0b111111, 0b1111, 0b11111, 0b1111};
        int[] sheets = {321, 654321, 4321, 54312, 4321};
        // What 0 wins: 6, 12, 8, 8, 8, each times 5 less how many events were closed behind it.
        int[] want = {30, 84, 6 * 3 + 12 * 4 + 8 * 5, 12 * 3 + 8 * 4 + 8 * 5, 8 * 3 + 8 * 4 + 8 * 5};
        for (int event = 0; event < want.length; event++) {
            x.open(entered[event], 1);
            x.begin();
            tellAll(x, 0, sheets[event]);
            x.close();
            Check.due("ofCouple(0, 2) behind the event " + event, x.ofCouple(0, 2), want[event]);
        }
    }

    private static void levelsRise() {
        SkateSheet x = Halls.hall(8, 3);
        for (int event = 1; event <= 4; event++) {
            x.open(255, 1);
            x.begin();
            tellAll(x, 0, 87654321);
            x.close();
            int level = event < 3 ? event : 3;
            Check.due("ofCouple(0, 1)", x.ofCouple(0, 1), level);
            // The third one has just 60 behind the first event.
            Check.due("ofCouple(2, 1)", x.ofCouple(2, 1), level);
            // The fourth one has 50, then 90.
            Check.due("ofCouple(3, 1)", x.ofCouple(3, 1), level - (event < 4 ? 1 : 0));
            // The last one has 10, 18, 24.
            Check.due("ofCouple(7, 1)", x.ofCouple(7, 1), 0);
        }
        SkateSheet away = Halls.hall(8, 3);
        away.open(255, 1);
        away.begin();
        tellAll(away, 0, 87654321);
        away.close();
        away.open(14, 1);
        away.begin();
        away.close();
        Check.due("ofCouple(0, 2)", away.ofCouple(0, 2), 64);
        Check.due("ofCouple(0, 1) of one that was not entered", away.ofCouple(0, 1), 1);
        Check.due("ofCouple(1, 1) of one that was entered", away.ofCouple(1, 1), 2);
        SkateSheet out = Halls.hall(8, 3);
        out.open(255, 1);
        out.begin();
        tellAll(out, 0, 87654321);
        out.close();
        out.open(15, 1);
        out.round(3, 6);
        out.dance();
        out.cross(0, 0, 14);
        out.cut();
        out.begin();
        out.close();
        Check.due("ofCouple(0, 1) of one that was out", out.ofCouple(0, 1), 2);
    }

    private static void judgesDrift() {
        SkateSheet x = Halls.inFinal(3, 3, 2);
        // Places 2 4 6 in halves by 0: 1 1 2, 1: 2 3 1, 2: 3 2 3.
        Halls.tell(x, 0, 321, 231, 312);
        x.sheet(1, 1, 321);
        x.penalise(0, 1, true);
        Check.due("ofJudge(1, 2) before the close", x.ofJudge(1, 2), 0);
        x.close();
        Check.due("ofJudge(0, 2)", x.ofJudge(0, 2), 0);
        // In the dance 1 the places are 6 2 4, the marks 1 2 3.
        Check.due("ofJudge(1, 2)", x.ofJudge(1, 2), 4 + 8);
        Check.due("ofJudge(2, 2)", x.ofJudge(2, 2), 4);
        x.open(7, 1);
        x.begin();
        Halls.tell(x, 0, 321, 312);
        x.sheet(2, 0, 321);
        x.lose(2, 0);
        x.close();
        // Places 3 3 6 in halves; a lost sheet counts no more.
        Check.due("ofJudge(0, 2)", x.ofJudge(0, 2), 2);
        Check.due("ofJudge(1, 2)", x.ofJudge(1, 2), 14);
        Check.due("ofJudge(2, 2)", x.ofJudge(2, 2), 4);
    }
}
