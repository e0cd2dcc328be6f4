import java.util.ArrayList;
import java.util.Arrays;
import java.util.Comparator;
import java.util.HashMap;
import java.util.List;
import java.util.Map;
import java.util.TreeMap;
import java.util.TreeSet;

/** The document again, sentence by sentence and without any thrift, for ModelTest to compare with. */
final class Model {
    /** A place in halves and the reason of it. */
    record Place(int halves, int reason) {
    }

    private final List<Integer> clubs = new ArrayList<>();
    private final List<Integer> levels = new ArrayList<>();
    private final List<Integer> judgeClubs = new ArrayList<>();
    private final List<Integer> drifts = new ArrayList<>();
    private final Map<List<Integer>, Integer> met = new HashMap<>();
    /** For each event that was closed: the points of those that were entered. */
    private final List<Map<Integer, Integer>> history = new ArrayList<>();

    private TreeSet<Integer> entered;
    private TreeSet<Integer> in = new TreeSet<>();
    private TreeSet<Integer> panel = new TreeSet<>();
    private int dances;
    private int rounds;
    private final Map<Integer, Integer> outIn = new HashMap<>();

    private boolean roundRuns;
    private int quota;
    private int size;
    private int danced;
    /** By dance and judge. */
    private final Map<List<Integer>, TreeSet<Integer>> crosses = new HashMap<>();
    private List<List<Integer>> heats = new ArrayList<>();

    private boolean inFinal;
    /** By dance and judge: the mark of each couple. */
    private Map<List<Integer>, Map<Integer, Integer>> sheets = new HashMap<>();
    private final TreeSet<Integer> penalised = new TreeSet<>();

    private static TreeSet<Integer> setOf(int bits) {
        TreeSet<Integer> set = new TreeSet<>();
        for (int i = 0; i < 32; i++) {
            if ((bits & 1 << i) != 0) {
                set.add(i);
            }
        }
        return set;
    }

    private static void illegalIf(boolean is) {
        if (is) {
            throw new IllegalArgumentException();
        }
    }

    private static void stateIf(boolean is) {
        if (is) {
            throw new IllegalStateException();
        }
    }

    private static void boundsIf(boolean is) {
        if (is) {
            throw new IndexOutOfBoundsException();
        }
    }

    int couple(int club) {
        illegalIf(club < 0 || club > 5);
        stateIf(clubs.size() == 10);
        clubs.add(club);
        levels.add(0);
        return clubs.size() - 1;
    }

    int judge(int club) {
        illegalIf(club < 0 || club > 5);
        stateIf(judgeClubs.size() == 7 || entered != null);
        judgeClubs.add(club);
        drifts.add(0);
        return judgeClubs.size() - 1;
    }

    int open(int couples, int howMany) {
        TreeSet<Integer> told = setOf(couples);
        illegalIf(told.size() < 3 || told.last() >= clubs.size() || howMany < 1 || howMany > 5);
        TreeSet<Integer> judges = new TreeSet<>();
        for (int judge = 0; judge < judgeClubs.size(); judge++) {
            boolean free = true;
            for (int couple : told) {
                free &= !clubs.get(couple).equals(judgeClubs.get(judge));
            }
            if (free) {
                judges.add(judge);
            }
        }
        if (judges.size() % 2 == 0) {
            judges.pollLast();
        }
        stateIf(entered != null || judges.size() < 3);
        entered = told;
        in = new TreeSet<>(told);
        panel = judges;
        dances = howMany;
        return panel.size();
    }

    int round(int newQuota, int newSize) {
        illegalIf(newQuota < 2 || newSize < 2 || newSize > 6);
        stateIf(entered == null || inFinal || roundRuns || newQuota >= in.size());
        rounds++;
        roundRuns = true;
        quota = newQuota;
        size = newSize;
        danced = 0;
        crosses.clear();
        heats = new ArrayList<>();
        return rounds;
    }

    int dance() {
        stateIf(!roundRuns || danced == dances);
        heats = new ArrayList<>();
        while (heats.size() * size < in.size()) {
            heats.add(new ArrayList<>());
        }
        for (int couple : in) {
            heats.stream().filter(heat -> heat.size() < size)
                    .min(Comparator.comparingInt(heat -> heat.stream().mapToInt(c -> meetings(couple, c)).sum()))
                    .get().add(couple);
        }
        for (List<Integer> heat : heats) {
            for (int one : heat) {
                for (int other : heat) {
                    if (one < other) {
                        met.merge(List.of(one, other), 1, Integer::sum);
                    }
                }
            }
        }
        danced++;
        return heats.size();
    }

    int cross(int judge, int dance, int couples) {
        boundsIf(!roundRuns || !panel.contains(judge) || dance < 0 || dance >= danced);
        TreeSet<Integer> told = setOf(couples);
        illegalIf(told.size() != quota || !in.containsAll(told));
        crosses.put(List.of(dance, judge), told);
        int sum = 0;
        for (int couple : told) {
            sum += crossesOf(couple, dance);
        }
        return sum;
    }

    private int crossesOf(int couple, int dance) {
        int sum = 0;
        for (Map.Entry<List<Integer>, TreeSet<Integer>> given : crosses.entrySet()) {
            sum += given.getKey().get(0) == dance && given.getValue().contains(couple) ? 1 : 0;
        }
        return sum;
    }

    private int crossesOf(int couple) {
        int sum = 0;
        for (int dance = 0; dance < dances; dance++) {
            sum += crossesOf(couple, dance);
        }
        return sum;
    }

    int cut() {
        stateIf(!roundRuns || danced < dances);
        List<Integer> order = new ArrayList<>(in);
        order.sort(Comparator.comparingInt(c -> -crossesOf(c)));
        int last = crossesOf(order.get(quota - 1));
        for (int couple : order) {
            if (crossesOf(couple) < last) {
                in.remove(couple);
                outIn.put(couple, rounds);
            }
        }
        roundRuns = false;
        return in.size();
    }

    int begin() {
        stateIf(entered == null || inFinal || roundRuns || in.size() > 8);
        inFinal = true;
        return in.size();
    }

    private void needDance(int dance) {
        boundsIf(dance < 0 || dance >= dances);
    }

    private void needIn(int couple) {
        boundsIf(!inFinal || !in.contains(couple));
    }

    int sheet(int judge, int dance, int marks) {
        boundsIf(!inFinal || !panel.contains(judge));
        needDance(dance);
        illegalIf(marks < 0);
        String digits = new StringBuilder(String.valueOf(marks)).reverse().toString();
        char[] sorted = digits.toCharArray();
        Arrays.sort(sorted);
        illegalIf(!new String(sorted).equals("12345678".substring(0, in.size())));
        Map<Integer, Integer> sheet = new TreeMap<>();
        int k = 0;
        for (int couple : in) {
            sheet.put(couple, digits.charAt(k) - '0');
            k++;
        }
        sheets.put(List.of(dance, judge), sheet);
        return sheetsOf(dance).size();
    }

    private List<Map<Integer, Integer>> sheetsOf(int dance) {
        List<Map<Integer, Integer>> found = new ArrayList<>();
        for (int judge = 0; judge < 7; judge++) {
            if (sheets.containsKey(List.of(dance, judge))) {
                found.add(sheets.get(List.of(dance, judge)));
            }
        }
        return found;
    }

    private void needSheet(int judge, int dance) {
        boundsIf(!inFinal || !sheets.containsKey(List.of(dance, judge)));
    }

    int lose(int judge, int dance) {
        needSheet(judge, dance);
        sheets.remove(List.of(dance, judge));
        return sheetsOf(dance).size();
    }

    boolean penalise(int couple, int dance, boolean is) {
        needIn(couple);
        needDance(dance);
        boolean was = penalised.contains(100 * dance + couple);
        if (is) {
            penalised.add(100 * dance + couple);
        } else {
            penalised.remove(100 * dance + couple);
        }
        return was;
    }

    /** How many of these marks are p or better, and the sum of those. */
    private static int[] orBetter(List<Integer> marks, int p) {
        int[] found = new int[2];
        for (int mark : marks) {
            if (mark <= p) {
                found[0]++;
                found[1] += mark;
            }
        }
        return found;
    }

    /** By more marks of p or better, the smaller sum of them, then by p and 1 and so on. */
    private int compareMarks(List<Integer> one, List<Integer> other, int from) {
        for (int p = from; p <= in.size(); p++) {
            int[] ones = orBetter(one, p);
            int[] others = orBetter(other, p);
            if (ones[0] != others[0]) {
                return others[0] - ones[0];
            }
            if (ones[1] != others[1]) {
                return ones[1] - others[1];
            }
        }
        return 0;
    }

    private List<Integer> marksIn(int couple, int dance) {
        List<Integer> marks = new ArrayList<>();
        for (Map<Integer, Integer> sheet : sheetsOf(dance)) {
            marks.add(sheet.get(couple));
        }
        return marks;
    }

    private static int shared(int first, int sharing) {
        int sum = 0;
        for (int i = 0; i < sharing; i++) {
            sum += first + i;
        }
        return 2 * sum / sharing;
    }

    Map<Integer, Place> placesIn(int dance) {
        Map<Integer, Place> places = new TreeMap<>();
        List<Integer> bad = new ArrayList<>();
        for (int couple : in) {
            if (penalised.contains(100 * dance + couple)) {
                bad.add(couple);
            }
        }
        int n = in.size();
        int number = sheetsOf(dance).size();
        if (number == 0) {
            for (int couple : in) {
                places.put(couple, new Place(shared(1, n), bad.contains(couple) ? 5 : 4));
            }
            return places;
        }
        int next = 1;
        for (int p = 1; p <= n; p++) {
            List<Integer> candidates = new ArrayList<>();
            for (int couple : in) {
                if (!places.containsKey(couple) && !bad.contains(couple)
                        && orBetter(marksIn(couple, dance), p)[0] >= number / 2 + 1) {
                    candidates.add(couple);
                }
            }
            next = placeCandidates(dance, p, candidates, places, next);
        }
        for (int couple : bad) {
            places.put(couple, new Place(shared(n - bad.size() + 1, bad.size()), 5));
        }
        return places;
    }

    private int placeCandidates(int dance, int from, List<Integer> candidates, Map<Integer, Place> places, int first) {
        int next = first;
        List<Integer> order = new ArrayList<>(candidates);
        order.sort((a, b) -> compareMarks(marksIn(a, dance), marksIn(b, dance), from));
        while (!order.isEmpty()) {
            List<Integer> alike = new ArrayList<>();
            for (int couple : order) {
                if (compareMarks(marksIn(couple, dance), marksIn(order.get(0), dance), from) == 0) {
                    alike.add(couple);
                }
            }
            for (int couple : alike) {
                int reason = alike.size() > 1 ? 4 : reasonOf(couple, dance, from, candidates);
                places.put(couple, new Place(shared(next, alike.size()), reason));
            }
            next += alike.size();
            order.removeAll(alike);
        }
        return next;
    }

    private int reasonOf(int couple, int dance, int p, List<Integer> candidates) {
        int[] own = orBetter(marksIn(couple, dance), p);
        boolean another = false;
        boolean asMany = false;
        boolean sameSum = false;
        for (int other : candidates) {
            if (other != couple) {
                int[] others = orBetter(marksIn(other, dance), p);
                another = true;
                asMany |= others[0] == own[0];
                sameSum |= others[0] == own[0] && others[1] == own[1];
            }
        }
        return !another ? 0 : !asMany ? 1 : !sameSum ? 2 : 3;
    }

    /** The total of each and its place over all dances. */
    private List<Map<Integer, Place>> danced() {
        List<Map<Integer, Place>> all = new ArrayList<>();
        for (int dance = 0; dance < dances; dance++) {
            all.add(placesIn(dance));
        }
        return all;
    }

    private static int totalOf(List<Map<Integer, Place>> all, int couple) {
        int sum = 0;
        for (Map<Integer, Place> places : all) {
            sum += places.get(couple).halves();
        }
        return sum;
    }

    Map<Integer, Place> overAll() {
        List<Map<Integer, Place>> all = danced();
        TreeMap<Integer, List<Integer>> groups = new TreeMap<>();
        for (int couple : in) {
            groups.computeIfAbsent(totalOf(all, couple), t -> new ArrayList<>()).add(couple);
        }
        Map<Integer, Place> ends = new TreeMap<>();
        int next = 1;
        for (List<Integer> group : groups.values()) {
            if (group.size() == 1) {
                ends.put(group.get(0), new Place(2 * next, 9));
            } else {
                untie(all, group, next, ends);
            }
            next += group.size();
        }
        return ends;
    }

    private void untie(List<Map<Integer, Place>> all, List<Integer> group, int r, Map<Integer, Place> ends) {
        if (group.isEmpty()) {
            return;
        }
        List<Integer> rest = new ArrayList<>(group);
        if (group.size() == 1) {
            ends.put(group.get(0), new Place(2 * r, 10));
            return;
        }
        List<Integer> ahead = aheadByRule10(all, group, r);
        if (ahead.size() == 1) {
            ends.put(ahead.get(0), new Place(2 * r, 10));
        } else {
            ahead = aheadByRule11(ahead, r);
            for (int couple : ahead) {
                ends.put(couple, new Place(shared(r, ahead.size()), ahead.size() == 1 ? 11 : 12));
            }
        }
        rest.removeAll(ahead);
        untie(all, rest, r + ahead.size(), ends);
    }

    private List<Integer> aheadByRule10(List<Map<Integer, Place>> all, List<Integer> group, int r) {
        Map<Integer, List<Integer>> halves = new HashMap<>();
        for (int couple : group) {
            List<Integer> own = new ArrayList<>();
            for (Map<Integer, Place> places : all) {
                own.add(places.get(couple).halves());
            }
            halves.put(couple, own);
        }
        Comparator<Integer> rule10 = Comparator
                .comparingInt((Integer couple) -> -orBetter(halves.get(couple), 2 * r)[0])
                .thenComparingInt(couple -> orBetter(halves.get(couple), 2 * r)[1]);
        return firstOnes(group, rule10);
    }

    private List<Integer> aheadByRule11(List<Integer> group, int r) {
        Map<Integer, List<Integer>> marks = new HashMap<>();
        for (int couple : group) {
            List<Integer> own = new ArrayList<>();
            for (int dance = 0; dance < dances; dance++) {
                own.addAll(marksIn(couple, dance));
            }
            marks.put(couple, own);
        }
        return firstOnes(group, (a, b) -> compareMarks(marks.get(a), marks.get(b), r));
    }

    private static List<Integer> firstOnes(List<Integer> group, Comparator<Integer> rule) {
        List<Integer> order = new ArrayList<>(group);
        order.sort(rule);
        List<Integer> first = new ArrayList<>();
        for (int couple : order) {
            if (rule.compare(couple, order.get(0)) == 0) {
                first.add(couple);
            }
        }
        return first;
    }

    int close() {
        stateIf(!inFinal);
        List<Map<Integer, Place>> all = danced();
        Map<Integer, Place> ends = overAll();
        for (Map.Entry<List<Integer>, Map<Integer, Integer>> told : sheets.entrySet()) {
            int judge = told.getKey().get(1);
            for (int couple : in) {
                int place = all.get(told.getKey().get(0)).get(couple).halves();
                drifts.set(judge, drifts.get(judge) + Math.abs(2 * told.getValue().get(couple) - place));
            }
        }
        Map<Integer, Integer> points = new HashMap<>();
        for (int couple : entered) {
            points.put(couple, in.contains(couple) ? 2 * entered.size() + 2 - ends.get(couple).halves()
                    : outIn.get(couple) - 1);
        }
        history.add(points);
        for (int couple : entered) {
            if (standing(couple) >= 60) {
                levels.set(couple, Math.min(3, levels.get(couple) + 1));
            }
        }
        entered = null;
        in.clear();
        panel.clear();
        dances = 0;
        rounds = 0;
        danced = 0;
        outIn.clear();
        crosses.clear();
        heats.clear();
        sheets.clear();
        penalised.clear();
        inFinal = false;
        return history.size() - 1;
    }

    private int standing(int couple) {
        List<Integer> worths = new ArrayList<>();
        for (int behind = 0; behind < 5 && behind < history.size(); behind++) {
            worths.add(history.get(history.size() - 1 - behind).getOrDefault(couple, 0) * (5 - behind));
        }
        worths.sort(Comparator.reverseOrder());
        int sum = 0;
        for (int i = 0; i < 3 && i < worths.size(); i++) {
            sum += worths.get(i);
        }
        return sum;
    }

    private void needCouple(int couple) {
        boundsIf(couple < 0 || couple >= clubs.size());
    }

    int ofCouple(int couple, int what) {
        needCouple(couple);
        illegalIf(what < 0 || what > 7);
        int heat = -1;
        for (int h = 0; h < heats.size(); h++) {
            heat = heats.get(h).contains(couple) ? h : heat;
        }
        boolean isEntered = entered != null && entered.contains(couple);
        return new int[] {clubs.get(couple), levels.get(couple), standing(couple), isEntered ? 1 : 0,
            in.contains(couple) ? 1 : 0, outIn.getOrDefault(couple, 0), crossesOf(couple), heat}[what];
    }

    int meetings(int one, int other) {
        needCouple(one);
        needCouple(other);
        return met.getOrDefault(List.of(Math.min(one, other), Math.max(one, other)), 0);
    }

    int ofJudge(int judge, int what) {
        boundsIf(judge < 0 || judge >= judgeClubs.size());
        illegalIf(what < 0 || what > 3);
        int number = 0;
        for (List<Integer> told : sheets.keySet()) {
            number += told.get(1) == judge ? 1 : 0;
        }
        return new int[] {judgeClubs.get(judge), panel.contains(judge) ? 1 : 0, drifts.get(judge), number}[what];
    }

    int votes(int couple, int dance, int p) {
        needIn(couple);
        needDance(dance);
        illegalIf(p < 1 || p > in.size());
        return orBetter(marksIn(couple, dance), p)[0];
    }

    int placed(int couple, int dance, int what) {
        needIn(couple);
        needDance(dance);
        illegalIf(what < 0 || what > 1);
        Place place = placesIn(dance).get(couple);
        return what == 0 ? place.halves() : place.reason();
    }

    int result(int couple, int what) {
        needIn(couple);
        illegalIf(what < 0 || what > 2);
        Place place = overAll().get(couple);
        return what == 0 ? place.halves() : what == 1 ? place.reason() : totalOf(danced(), couple);
    }

    int many(int what) {
        illegalIf(what < 0 || what > 10);
        int inside = 0;
        for (int couple : in) {
            inside += 1 << couple;
        }
        return new int[] {clubs.size(), judgeClubs.size(), history.size(), entered != null ? 1 : 0, inFinal ? 1 : 0,
            rounds, dances, roundRuns ? danced : 0, inside, panel.size(), sheets.size()}[what];
    }

    double meanStanding() {
        double sum = 0;
        for (int couple = 0; couple < clubs.size(); couple++) {
            sum += standing(couple);
        }
        return clubs.isEmpty() ? 0 : sum / clubs.size();
    }

    int exchanged(int judge, int dance, int one, int other, int couple) {
        needSheet(judge, dance);
        needIn(one);
        needIn(other);
        needIn(couple);
        Map<List<Integer>, Map<Integer, Integer>> kept = sheets;
        Map<Integer, Integer> other1 = new TreeMap<>(kept.get(List.of(dance, judge)));
        other1.put(one, kept.get(List.of(dance, judge)).get(other));
        other1.put(other, kept.get(List.of(dance, judge)).get(one));
        sheets = new HashMap<>(kept);
        sheets.put(List.of(dance, judge), other1);
        int place = overAll().get(couple).halves();
        sheets = kept;
        return place;
    }

    int bestExchange(int judge, int dance, int couple) {
        needSheet(judge, dance);
        needIn(couple);
        int least = overAll().get(couple).halves();
        int best = -1;
        for (int number = 0; number < 100; number++) {
            int one = number / 10;
            int other = number % 10;
            if (one < other && in.contains(one) && in.contains(other)) {
                int place = exchanged(judge, dance, one, other, couple);
                if (place < least) {
                    least = place;
                    best = number;
                }
            }
        }
        return best;
    }

    private Map<Integer, Place> overAllWithout(int judges) {
        Map<List<Integer>, Map<Integer, Integer>> kept = sheets;
        sheets = new HashMap<>(kept);
        sheets.keySet().removeIf(told -> (judges & 1 << told.get(1)) != 0);
        Map<Integer, Place> ends = overAll();
        sheets = kept;
        return ends;
    }

    int without(int judges, int couple) {
        needIn(couple);
        illegalIf(judges < 0 || judges > 127);
        return overAllWithout(judges).get(couple).halves();
    }

    private static TreeSet<Integer> first(Map<Integer, Place> ends) {
        TreeSet<Integer> first = new TreeSet<>();
        int least = 100;
        for (Place place : ends.values()) {
            least = Math.min(least, place.halves());
        }
        for (int couple : ends.keySet()) {
            if (ends.get(couple).halves() == least) {
                first.add(couple);
            }
        }
        return first;
    }

    int fragile() {
        int least = -1;
        for (int judges = 0; inFinal && judges < 128; judges++) {
            int number = Integer.bitCount(judges);
            if (panel.containsAll(setOf(judges)) && number < panel.size() && (least < 0 || number < least)
                    && !first(overAllWithout(judges)).equals(first(overAll()))) {
                least = number;
            }
        }
        return least;
    }
}
