/** Promises 1 to 4, and what 14 to 16, 20 and 21 answer about people. */
public final class PeopleTest {
    private static final Class<?> ILLEGAL = IllegalArgumentException.class;
    private static final Class<?> STATE = IllegalStateException.class;
    private static final Class<?> BOUNDS = IndexOutOfBoundsException.class;

    private PeopleTest() {
    }

    public static void main(String[] args) {
        aNewObject();
        couplesAreTold();
        judgesAreTold();
        aPanelIsChosen();
        openRefuses();
        openStartsAnew();
        questionsRefuse();
        Check.end();
    }

    private static void aNewObject() {
        SkateSheet x = new SkateSheet();
        for (int what = 0; what <= 10; what++) {
            Check.due("many(" + what + ") of a new object", x.many(what), 0);
        }
        Check.due("meanStanding() of a new object", x.meanStanding(), 0.0);
        Check.due("fragile() of a new object", x.fragile(), -1);
        Check.refused(x, "ofCouple(0, 0)", BOUNDS, () -> x.ofCouple(0, 0));
        Check.refused(x, "ofJudge(0, 0)", BOUNDS, () -> x.ofJudge(0, 0));
    }

    private static void couplesAreTold() {
        SkateSheet x = new SkateSheet();
        Check.refused(x, "couple(-1)", ILLEGAL, () -> x.couple(-1));
        Check.refused(x, "couple(6)", ILLEGAL, () -> x.couple(6));
        for (int number = 0; number < 10; number++) {
            Check.due("couple", x.couple(number % 6), number);
            Check.due("many(0)", x.many(0), number + 1);
        }
        Check.refused(x, "couple(5) as the 11th", STATE, () -> x.couple(5));
        Check.refused(x, "couple(6) as the 11th", ILLEGAL, () -> x.couple(6));
        int[] fresh = {3, 0, 0, 0, 0, 0, 0, -1};
        for (int what = 0; what < fresh.length; what++) {
            Check.due("ofCouple(9, " + what + ")", x.ofCouple(9, what), fresh[what]);
        }
        Check.due("meetings(9, 8)", x.meetings(9, 8), 0);
        Check.due("meetings(9, 9)", x.meetings(9, 9), 0);
        Check.due("meanStanding()", x.meanStanding(), 0.0);
    }

    private static void judgesAreTold() {
        SkateSheet x = new SkateSheet();
        Check.refused(x, "judge(-1)", ILLEGAL, () -> x.judge(-1));
        Check.refused(x, "judge(6)", ILLEGAL, () -> x.judge(6));
        for (int number = 0; number < 7; number++) {
            Check.due("judge", x.judge(number % 6), number);
            Check.due("many(1)", x.many(1), number + 1);
        }
        Check.refused(x, "judge(5) as the 8th", STATE, () -> x.judge(5));
        Check.refused(x, "judge(6) as the 8th", ILLEGAL, () -> x.judge(6));
        for (int what = 1; what <= 3; what++) {
            Check.due("ofJudge(5, " + what + ")", x.ofJudge(5, what), 0);
        }
        Check.due("ofJudge(5, 0)", x.ofJudge(5, 0), 5);
        SkateSheet open = Halls.hall(3, 3);
        open.open(7, 1);
        Check.refused(open, "judge(2) in an event", STATE, () -> open.judge(2));
        Check.due("couple(2) in an event", open.couple(2), 3);
        Check.due("ofCouple(3, 3) of one told in an event", open.ofCouple(3, 3), 0);
    }

    private static void aPanelIsChosen() {
        SkateSheet x = new SkateSheet();
        for (int club : new int[] {0, 0, 1, 2}) {
            x.couple(club);
        }
        for (int club : new int[] {3, 0, 4, 1, 5, 3, 2}) {
            x.judge(club);
        }
        // Couples of the clubs 0 and 1 leave the judges 0, 2, 4, 5, 6: an odd number.
        Check.due("open(7, 1)", x.open(7, 1), 5);
        int[] first = {1, 0, 1, 0, 1, 1, 1};
        for (int judge = 0; judge < 7; judge++) {
            Check.due("ofJudge(" + judge + ", 1)", x.ofJudge(judge, 1), first[judge]);
        }
        x.begin();
        x.close();
        Check.due("ofJudge(0, 1) without an event", x.ofJudge(0, 1), 0);
        // With the club 2 in it four are left, so the greatest number of them goes.
        Check.due("open(13, 1)", x.open(13, 5), 3);
        int[] second = {1, 0, 1, 0, 1, 0, 0};
        for (int judge = 0; judge < 7; judge++) {
            Check.due("ofJudge(" + judge + ", 1)", x.ofJudge(judge, 1), second[judge]);
        }
        Check.due("many(9)", x.many(9), 3);
        Check.due("many(6)", x.many(6), 5);
        Check.due("many(8)", x.many(8), 13);
        Check.due("ofCouple(1, 3)", x.ofCouple(1, 3), 0);
        Check.due("ofCouple(2, 3)", x.ofCouple(2, 3), 1);
        Check.due("ofCouple(2, 4)", x.ofCouple(2, 4), 1);
        SkateSheet seven = Halls.hall(3, 7);
        Check.due("open with seven judges", seven.open(7, 1), 7);
    }

    private static void openRefuses() {
        SkateSheet x = Halls.hall(4, 3);
        Check.refused(x, "open(3, 1)", ILLEGAL, () -> x.open(3, 1));
        Check.refused(x, "open(19, 1)", ILLEGAL, () -> x.open(19, 1));
        Check.refused(x, "open(-1, 1)", ILLEGAL, () -> x.open(-1, 1));
        Check.refused(x, "open(2^31 and 7, 1)", ILLEGAL, () -> x.open(Integer.MIN_VALUE + 7, 1));
        Check.refused(x, "open(7, 0)", ILLEGAL, () -> x.open(7, 0));
        Check.refused(x, "open(7, 6)", ILLEGAL, () -> x.open(7, 6));
        x.open(15, 5);
        Check.refused(x, "open(7, 1) in an event", STATE, () -> x.open(7, 1));
        Check.refused(x, "open(7, 6) in an event", ILLEGAL, () -> x.open(7, 6));
        SkateSheet two = Halls.hall(3, 2);
        Check.refused(two, "open(7, 1) with two judges", STATE, () -> two.open(7, 1));
        two.judge(0);
        Check.refused(two, "open(7, 1) with a judge of their club", STATE, () -> two.open(7, 1));
        two.judge(2);
        Check.due("open(7, 1) with three", two.open(7, 1), 3);
        SkateSheet none = new SkateSheet();
        Check.refused(none, "open(7, 1) of nobody", ILLEGAL, () -> none.open(7, 1));
    }

    private static void openStartsAnew() {
        SkateSheet x = Halls.hall(5, 3);
        x.open(31, 1);
        x.round(2, 6);
        x.dance();
        x.cross(0, 0, 3);
        x.cut();
        x.begin();
        x.sheet(0, 0, 21);
        x.penalise(0, 0, true);
        x.close();
        for (int what = 3; what <= 10; what++) {
            Check.due("many(" + what + ") behind the event", x.many(what), 0);
        }
        int[] want = {0, 0, 0, 0, -1};
        for (int what = 3; what <= 7; what++) {
            Check.due("ofCouple(4, " + what + ") behind the event", x.ofCouple(4, what), want[what - 3]);
        }
        Check.due("ofJudge(0, 3) behind the event", x.ofJudge(0, 3), 0);
        x.open(31, 1);
        Check.due("many(5) in the next event", x.many(5), 0);
        for (int what = 5; what <= 7; what++) {
            Check.due("ofCouple(4, " + what + ") in the next event", x.ofCouple(4, what), want[what - 3]);
        }
        Check.due("meetings(4, 0) are for good", x.meetings(4, 0), 1);
        x.begin();
        Check.due("many(10) in the next final", x.many(10), 0);
        Check.due("penalise(0, 0, false) in the next final", x.penalise(0, 0, false), false);
    }

    private static void questionsRefuse() {
        SkateSheet x = Halls.hall(3, 3);
        Check.refused(x, "ofCouple(-1, 0)", BOUNDS, () -> x.ofCouple(-1, 0));
        Check.refused(x, "ofCouple(3, 0)", BOUNDS, () -> x.ofCouple(3, 0));
        Check.refused(x, "ofCouple(3, 8)", BOUNDS, () -> x.ofCouple(3, 8));
        Check.refused(x, "ofCouple(2, -1)", ILLEGAL, () -> x.ofCouple(2, -1));
        Check.refused(x, "ofCouple(2, 8)", ILLEGAL, () -> x.ofCouple(2, 8));
        Check.refused(x, "meetings(0, 3)", BOUNDS, () -> x.meetings(0, 3));
        Check.refused(x, "meetings(3, 0)", BOUNDS, () -> x.meetings(3, 0));
        Check.refused(x, "meetings(-1, -1)", BOUNDS, () -> x.meetings(-1, -1));
        Check.refused(x, "ofJudge(-1, 0)", BOUNDS, () -> x.ofJudge(-1, 0));
        Check.refused(x, "ofJudge(3, 4)", BOUNDS, () -> x.ofJudge(3, 4));
        Check.refused(x, "ofJudge(2, -1)", ILLEGAL, () -> x.ofJudge(2, -1));
        Check.refused(x, "ofJudge(2, 4)", ILLEGAL, () -> x.ofJudge(2, 4));
        Check.refused(x, "many(-1)", ILLEGAL, () -> x.many(-1));
        Check.refused(x, "many(11)", ILLEGAL, () -> x.many(11));
    }
}
