import java.util.ArrayList;
import java.util.List;

/** A refused call throws just what the document names, and nothing that is asked or done behind it is another. */
final class Refusal {
    /** A state to call from, made anew as often as it is needed. */
    interface State {
        SkateSheet made();
    }

    interface Call {
        Object on(SkateSheet x);
    }

    /** What one finds out about an object. Each look keeps, with the state, to the 512 calls of the document. */
    private interface Look {
        List<String> at(SkateSheet x);
    }

    static final Class<?> ILLEGAL = IllegalArgumentException.class;
    static final Class<?> STATE = IllegalStateException.class;
    static final Class<?> BOUNDS = IndexOutOfBoundsException.class;

    private static final Look[] LOOKS = {Refusal::people, Refusal::places, Refusal::playedOn, Refusal::closed};

    private Refusal() {
    }

    static void due(State state, Class<?> exception, String text, Call call) {
        SkateSheet first = state.made();
        Check.due(text, outcome(first, call), "throws." + exception.getSimpleName());
        for (Look look : LOOKS) {
            SkateSheet called = state.made();
            outcome(called, call);
            dueTheSame(text, look.at(called), look.at(state.made()));
        }
    }

    /** Numbers beside those from least to most: next to them, far from them, and such as wrap around to them. */
    static int[] outside(int least, int most) {
        return new int[] {least - 1, most + 1, least - 10, most + 10, least + 32, most + 32, most + 64,
            least + Integer.MIN_VALUE, Integer.MIN_VALUE, Integer.MAX_VALUE, 858993460};
    }

    private static void dueTheSame(String text, List<String> got, List<String> want) {
        for (int i = 0; i < want.size() && i < got.size(); i++) {
            Check.due("behind the refused " + text + ": ", got.get(i), want.get(i));
        }
        Check.due("answers behind the refused " + text, got.size(), want.size());
    }

    private static String outcome(SkateSheet x, Call call) {
        return Check.outcome(() -> call.on(x));
    }

    private static void note(List<String> found, String text, SkateSheet x, Call call) {
        found.add(text + " " + outcome(x, call));
    }

    private static List<String> people(SkateSheet x) {
        List<String> found = new ArrayList<>();
        for (int i = 0; i <= 10; i++) {
            int what = i;
            note(found, "many " + what, x, y -> y.many(what));
        }
        for (int i = 0; i < 10; i++) {
            int couple = i;
            for (int k = 0; k < 10; k++) {
                int other = k;
                note(found, "ofCouple " + couple + " " + other, x, y -> y.ofCouple(couple, other));
                note(found, "meetings " + couple + " " + other, x, y -> y.meetings(couple, other));
                note(found, "ofJudge " + couple + " " + other % 4, x, y -> y.ofJudge(couple, other % 4));
            }
        }
        note(found, "meanStanding", x, SkateSheet::meanStanding);
        note(found, "fragile", x, SkateSheet::fragile);
        note(found, "digest", x, SkateSheet::digest);
        return found;
    }

    private static List<Integer> members(SkateSheet x) {
        List<Integer> found = new ArrayList<>();
        int inside = x.many(8);
        for (int couple = 0; couple < 10; couple++) {
            if ((inside & 1 << couple) != 0) {
                found.add(couple);
            }
        }
        return found;
    }

    private static List<String> places(SkateSheet x) {
        List<String> found = new ArrayList<>();
        int dances = x.many(6);
        List<Integer> members = members(x);
        for (int couple : members) {
            for (int what = 0; what < 3; what++) {
                int w = what;
                note(found, "result " + couple + " " + w, x, y -> y.result(couple, w));
            }
            for (int dance = 0; dance < dances; dance++) {
                int d = dance;
                note(found, "placed " + couple + " " + d + " 0", x, y -> y.placed(couple, d, 0));
                note(found, "placed " + couple + " " + d + " 1", x, y -> y.placed(couple, d, 1));
                for (int p = 1; p < members.size(); p++) {
                    int place = p;
                    note(found, "votes " + couple + " " + d + " " + p, x, y -> y.votes(couple, d, place));
                }
            }
        }
        return found;
    }

    // What is hidden (the quota, the size, who gave which crosses and sheets, the penalties) shows as one goes on.
    private static List<String> playedOn(SkateSheet x) {
        List<String> found = new ArrayList<>();
        List<Integer> members = members(x);
        int set = 0;
        for (int number = 1; number < members.size() && x.many(7) > 0; number++) {
            set |= 1 << members.get(number - 1);
            int couples = set;
            for (int judge = 0; judge < 7; judge++) {
                int j = judge;
                note(found, "cross " + j + " " + couples, x, y -> y.cross(j, y.many(7) - 1, couples));
            }
        }
        for (int i = 0; i < 5; i++) {
            note(found, "dance", x, SkateSheet::dance);
        }
        note(found, "cut", x, SkateSheet::cut);
        note(found, "round", x, y -> y.round(2, 2));
        for (int i = 0; i < 35; i++) {
            int number = i;
            note(found, "lose " + number, x, y -> y.lose(number % 7, number / 7));
            note(found, "digest", x, SkateSheet::digest);
        }
        for (int couple : members) {
            for (int dance = 0; dance < 5; dance++) {
                int d = dance;
                note(found, "penalise " + couple + " " + d, x, y -> y.penalise(couple, d, false));
            }
        }
        note(found, "digest", x, SkateSheet::digest);
        return found;
    }

    private static List<String> closed(SkateSheet x) {
        List<String> found = new ArrayList<>();
        note(found, "begin", x, SkateSheet::begin);
        note(found, "close", x, SkateSheet::close);
        note(found, "digest", x, SkateSheet::digest);
        note(found, "judge", x, y -> y.judge(4));
        note(found, "couple", x, y -> y.couple(3));
        note(found, "open", x, y -> y.open(7, 2));
        note(found, "round", x, y -> y.round(2, 2));
        note(found, "dance", x, SkateSheet::dance);
        note(found, "digest", x, SkateSheet::digest);
        return found;
    }
}
