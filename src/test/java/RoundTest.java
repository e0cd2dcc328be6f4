/** Promises 5 to 8, and what 14, 15 and 20 answer about rounds. */
public final class RoundTest {
    private static final Class<?> ILLEGAL = IllegalArgumentException.class;
    private static final Class<?> STATE = IllegalStateException.class;
    private static final Class<?> BOUNDS = IndexOutOfBoundsException.class;

    private RoundTest() {
    }

    public static void main(String[] args) {
        roundsBegin();
        heatsAvoidMeetings();
        heatsAreAsManyAsNeeded();
        crossesAreGiven();
        crossesAreRefused();
        theQuotaGoesOn();
        allThatAreLikeTheLastGoOn();
        cutIsRefused();
        whatIsAskedOfRounds();
        Check.end();
    }

    private static void roundsBegin() {
        SkateSheet x = Halls.hall(5, 3);
        Check.refused(x, "round(2, 2) without an event", STATE, () -> x.round(2, 2));
        Check.refused(x, "round(1, 2) without an event", ILLEGAL, () -> x.round(1, 2));
        x.open(31, 1);
        Check.refused(x, "round(1, 2)", ILLEGAL, () -> x.round(1, 2));
        Check.refused(x, "round(2, 1)", ILLEGAL, () -> x.round(2, 1));
        Check.refused(x, "round(2, 7)", ILLEGAL, () -> x.round(2, 7));
        Check.refused(x, "round(5, 2)", STATE, () -> x.round(5, 2));
        Check.due("round(4, 6)", x.round(4, 6), 1);
        Check.refused(x, "round(2, 2) in a round", STATE, () -> x.round(2, 2));
        Halls.finishRound(x);
        Check.due("round(2, 2)", x.round(2, 2), 2);
        Halls.finishRound(x);
        x.begin();
        Check.refused(x, "round(2, 2) in a final", STATE, () -> x.round(2, 2));
    }

    private static void heatsAvoidMeetings() {
        SkateSheet x = Halls.hall(6, 3);
        x.open(63, 3);
        x.round(4, 2);
        dueHeats(x, 3, 0, 0, 1, 1, 2, 2);
        Check.due("meetings(0, 1)", x.meetings(0, 1), 1);
        Check.due("meetings(1, 0)", x.meetings(1, 0), 1);
        Check.due("meetings(0, 2)", x.meetings(0, 2), 0);
        // 1 met 0, so it goes to the empty heat 1; 2 joins 0, and 3, which met 2 alone, joins 1.
        dueHeats(x, 3, 0, 1, 0, 1, 2, 2);
        Check.due("meetings(4, 5)", x.meetings(4, 5), 2);
        // 1 met 0 and parts; 2 met 0 too, but not 1; 3 met 1 and 2, but not 0; 4 and 5 are left with each other.
        dueHeats(x, 3, 0, 1, 1, 0, 2, 2);
        Check.due("meetings(1, 2)", x.meetings(1, 2), 1);
        Check.due("meetings(4, 5)", x.meetings(4, 5), 3);
    }

    private static void heatsAreAsManyAsNeeded() {
        int[] heats = {5, 4, 3, 2, 2};
        for (int size = 2; size <= 6; size++) {
            SkateSheet x = Halls.hall(10, 3);
            x.open(1023, 1);
            x.round(2, size);
            Check.due("dance() of ten with the size " + size, x.dance(), heats[size - 2]);
        }
        SkateSheet x = Halls.hall(7, 3);
        x.open(126, 2);
        x.round(2, 3);
        dueHeats(x, 2, -1, 0, 0, 0, 1, 1, 1);
        // 3 met one of each heat and goes to the smaller number, as 4 does, who met none of them.
        dueHeats(x, 2, -1, 0, 1, 0, 0, 1, 1);
        Check.refused(x, "dance() behind the last one", STATE, x::dance);
        x.cut();
        Check.refused(x, "dance() behind the cut", STATE, x::dance);
        SkateSheet none = Halls.hall(3, 3);
        Check.refused(none, "dance() without an event", STATE, none::dance);
        none.open(7, 1);
        Check.refused(none, "dance() without a round", STATE, none::dance);
    }

    private static void dueHeats(SkateSheet x, int number, int... heats) {
        Check.due("dance()", x.dance(), number);
        for (int couple = 0; couple < heats.length; couple++) {
            Check.due("ofCouple(" + couple + ", 7)", x.ofCouple(couple, 7), heats[couple]);
        }
    }

    private static void crossesAreGiven() {
        SkateSheet x = Halls.hall(6, 3);
        x.open(63, 2);
        x.round(3, 6);
        x.dance();
        Check.due("cross(0, 0, 7)", x.cross(0, 0, 7), 3);
        // 0 and 1 have two by now, 3 its first one; 2 is not among these.
        Check.due("cross(1, 0, 11)", x.cross(1, 0, 11), 5);
        Check.due("cross(2, 0, 56)", x.cross(2, 0, 56), 4);
        // Told again: the former ones of the judge 2 are gone.
        Check.due("cross(2, 0, 7)", x.cross(2, 0, 7), 8);
        Check.due("ofCouple(5, 6)", x.ofCouple(5, 6), 0);
        Check.due("ofCouple(0, 6)", x.ofCouple(0, 6), 3);
        x.dance();
        Check.due("cross(0, 1, 49) counts that dance alone", x.cross(0, 1, 49), 3);
        Check.due("ofCouple(0, 6) counts all dances", x.ofCouple(0, 6), 4);
        Check.due("cross(1, 0, 56) of a former dance", x.cross(1, 0, 56), 3);
        Check.due("ofCouple(3, 6)", x.ofCouple(3, 6), 1);
    }

    private static void crossesAreRefused() {
        SkateSheet x = Halls.hall(5, 4);
        Check.refused(x, "cross(0, 0, 3) without an event", BOUNDS, () -> x.cross(0, 0, 3));
        x.open(15, 2);
        Check.refused(x, "cross(0, 0, 3) without a round", BOUNDS, () -> x.cross(0, 0, 3));
        x.round(2, 6);
        Check.refused(x, "cross(0, 0, 3) before a dance", BOUNDS, () -> x.cross(0, 0, 3));
        x.dance();
        Check.refused(x, "cross(-1, 0, 3)", BOUNDS, () -> x.cross(-1, 0, 3));
        Check.refused(x, "cross(3, 0, 3) of one beside the panel", BOUNDS, () -> x.cross(3, 0, 3));
        Check.refused(x, "cross(32, 0, 3)", BOUNDS, () -> x.cross(32, 0, 3));
        Check.refused(x, "cross(0, -1, 3)", BOUNDS, () -> x.cross(0, -1, 3));
        Check.refused(x, "cross(0, 1, 3)", BOUNDS, () -> x.cross(0, 1, 3));
        Check.refused(x, "cross(0, 1, 1)", BOUNDS, () -> x.cross(0, 1, 1));
        Check.refused(x, "cross(0, 0, 1)", ILLEGAL, () -> x.cross(0, 0, 1));
        Check.refused(x, "cross(0, 0, 7)", ILLEGAL, () -> x.cross(0, 0, 7));
        Check.refused(x, "cross(0, 0, 17)", ILLEGAL, () -> x.cross(0, 0, 17));
        Check.refused(x, "cross(0, 0, 2^31 and 1)", ILLEGAL, () -> x.cross(0, 0, Integer.MIN_VALUE + 1));
        x.cross(0, 0, 3);
        x.cross(1, 0, 3);
        x.dance();
        x.cut();
        Check.refused(x, "cross(0, 0, 3) behind the cut", BOUNDS, () -> x.cross(0, 0, 3));
    }

    private static void theQuotaGoesOn() {
        SkateSheet x = Halls.hall(6, 3);
        x.open(62, 1);
        x.round(2, 6);
        x.dance();
        x.cross(0, 0, 6);
        x.cross(1, 0, 10);
        x.cross(2, 0, 6);
        Check.due("cut()", x.cut(), 2);
        Check.due("many(8)", x.many(8), 6);
        int[] outIn = {0, 0, 0, 1, 1, 1};
        int[] isIn = {0, 1, 1, 0, 0, 0};
        int[] crosses = {0, 3, 2, 1, 0, 0};
        for (int couple = 0; couple < 6; couple++) {
            Check.due("ofCouple(" + couple + ", 5)", x.ofCouple(couple, 5), outIn[couple]);
            Check.due("ofCouple(" + couple + ", 4)", x.ofCouple(couple, 4), isIn[couple]);
            Check.due("ofCouple(" + couple + ", 6)", x.ofCouple(couple, 6), crosses[couple]);
            Check.due("ofCouple(" + couple + ", 3)", x.ofCouple(couple, 3), couple > 0 ? 1 : 0);
        }
    }

    private static void allThatAreLikeTheLastGoOn() {
        SkateSheet x = Halls.hall(5, 3);
        x.open(31, 2);
        x.round(2, 6);
        x.dance();
        x.cross(0, 0, 3);
        x.dance();
        x.cross(0, 1, 5);
        // 0 has two, 1 and 2 have one each: as the second one of the quota is like the third, both go on.
        Check.due("cut()", x.cut(), 3);
        Check.due("many(8)", x.many(8), 7);
        x.round(2, 6);
        Check.due("many(5)", x.many(5), 2);
        // Without any cross all are alike.
        Check.due("cut() without crosses", Halls.finishRound(x), 3);
        x.round(2, 6);
        x.dance();
        x.cross(0, 0, 6);
        x.dance();
        Check.due("cut() of the third round", x.cut(), 2);
        Check.due("ofCouple(0, 5)", x.ofCouple(0, 5), 3);
        Check.due("ofCouple(3, 5)", x.ofCouple(3, 5), 1);
        Check.due("ofCouple(1, 5)", x.ofCouple(1, 5), 0);
    }

    private static void cutIsRefused() {
        SkateSheet x = Halls.hall(4, 3);
        Check.refused(x, "cut() without an event", STATE, x::cut);
        x.open(15, 2);
        Check.refused(x, "cut() without a round", STATE, x::cut);
        x.round(2, 4);
        Check.refused(x, "cut() before a dance", STATE, x::cut);
        x.dance();
        Check.refused(x, "cut() before the last dance", STATE, x::cut);
        x.dance();
        Check.due("cut()", x.cut(), 4);
        Check.refused(x, "cut() once more", STATE, x::cut);
    }

    private static void whatIsAskedOfRounds() {
        SkateSheet x = Halls.hall(4, 3);
        x.open(15, 2);
        x.round(2, 2);
        Check.due("ofCouple(3, 7) before a dance", x.ofCouple(3, 7), -1);
        Check.due("many(7) before a dance", x.many(7), 0);
        x.dance();
        x.cross(0, 0, 3);
        x.cross(1, 0, 3);
        Check.due("many(7)", x.many(7), 1);
        x.dance();
        Check.due("many(7)", x.many(7), 2);
        x.cut();
        Check.due("many(7) behind the cut", x.many(7), 0);
        Check.due("ofCouple(0, 6) behind the cut", x.ofCouple(0, 6), 2);
        Check.due("ofCouple(3, 7) behind the cut", x.ofCouple(3, 7), 1);
        x.begin();
        Check.due("ofCouple(0, 6) in the final", x.ofCouple(0, 6), 2);
        Check.due("ofCouple(3, 7) in the final", x.ofCouple(3, 7), 1);
        x.close();
        x.open(15, 1);
        x.round(3, 4);
        x.dance();
        x.cross(0, 0, 14);
        x.cut();
        x.round(2, 4);
        Check.due("ofCouple(1, 6) in the next round", x.ofCouple(1, 6), 0);
        Check.due("ofCouple(1, 7) in the next round", x.ofCouple(1, 7), -1);
        x.dance();
        Check.due("ofCouple(0, 7) of one that is out", x.ofCouple(0, 7), -1);
        Check.due("ofCouple(1, 7) of one that is in", x.ofCouple(1, 7), 0);
    }
}
