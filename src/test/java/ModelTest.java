import java.util.Arrays;
import java.util.Random;
import java.util.TreeSet;

/** Runs of calls, the same in each session, answered by SkateSheet and by Model alike: all promises together. */
public final class ModelTest {
    private static final int CALLS = 512;

    private final Random random;
    private final SkateSheet x = new SkateSheet();
    private final Model m = new Model();
    private final int boldness;
    private final int run;
    private int step;

    private static final TreeSet<Integer> DANCE_REASONS = new TreeSet<>();
    private static final TreeSet<Integer> END_REASONS = new TreeSet<>();
    private static final TreeSet<Integer> FRAGILE = new TreeSet<>();

    private ModelTest(int run) {
        this.run = run;
        this.random = new Random(run);
        this.boldness = run % 4 * 4;
    }

    public static void main(String[] args) {
        int runs = args.length > 0 ? Integer.parseInt(args[0]) : 60;
        for (int run = 0; run < runs && Check.wrongOnes() == 0; run++) {
            new ModelTest(run).walk();
        }
        Check.due("all reasons in a dance", DANCE_REASONS.toString(), "[0, 1, 2, 3, 4, 5]");
        Check.due("all reasons over all dances", END_REASONS.toString(), "[9, 10, 11, 12]");
        Check.due("fragile() of all kinds", FRAGILE.containsAll(Arrays.asList(-1, 1, 2, 3)), true);
        Check.end();
    }

    private void walk() {
        int couples = 3 + random.nextInt(8);
        for (int i = 0; i < couples; i++) {
            int club = random.nextInt(random.nextInt(3) == 0 ? 6 : 2);
            both("couple(" + club + ")", () -> x.couple(club), () -> m.couple(club));
        }
        int judges = 3 + random.nextInt(5);
        for (int i = 0; i < judges; i++) {
            int club = random.nextInt(5) == 0 ? random.nextInt(6) : 2 + random.nextInt(4);
            both("judge(" + club + ")", () -> x.judge(club), () -> m.judge(club));
        }
        for (step = couples + judges; step < CALLS && Check.wrongOnes() == 0; step++) {
            if (random.nextInt(3) == 0) {
                ask();
            } else {
                act();
            }
        }
    }

    private void both(String call, Check.Call program, Check.Call model) {
        String want = Check.outcome(model);
        Check.due("run " + run + ", call " + step + ": " + call, Check.outcome(program), want);
    }

    /** A number below the bound, or, in bold runs, now and then one beside it. */
    private int below(int bound) {
        if (random.nextInt(100) < boldness) {
            int[] odd = {-1, bound, bound + 1, 31, 32, 33, Integer.MIN_VALUE, Integer.MAX_VALUE, 858993460};
            return odd[random.nextInt(odd.length)];
        }
        return random.nextInt(Math.max(bound, 1));
    }

    private int memberOf(int set) {
        int wanted = random.nextInt(Math.max(Integer.bitCount(set), 1));
        for (int i = 0; i < 10; i++) {
            if ((set & 1 << i) != 0 && wanted-- == 0 && random.nextInt(100) >= boldness) {
                return i;
            }
        }
        return below(10);
    }

    private int panelMember() {
        int set = 0;
        for (int judge = 0; judge < m.many(1); judge++) {
            set |= m.ofJudge(judge, 1) << judge;
        }
        return memberOf(set);
    }

    private int subsetOf(int set, int number) {
        int found = 0;
        for (int tries = 0; tries < 200 && Integer.bitCount(found) < number; tries++) {
            found |= set & 1 << random.nextInt(10);
        }
        return random.nextInt(100) < boldness ? found ^ 1 << random.nextInt(32) : found;
    }

    private int marks() {
        int n = Integer.bitCount(m.many(8));
        int[] order = new int[n];
        for (int k = 0; k < n; k++) {
            order[k] = k + 1;
        }
        // Few exchanges keep the judges near each other, and the places tied.
        for (int i = random.nextInt(n + 1); i > 0; i--) {
            int a = random.nextInt(n);
            int b = random.nextInt(n);
            int kept = order[a];
            order[a] = order[b];
            order[b] = kept;
        }
        int told = 0;
        for (int k = 0; k < n; k++) {
            told = told * 10 + order[k];
        }
        return random.nextInt(100) < boldness ? told + random.nextInt(30) - 15 : told;
    }

    private void act() {
        if (m.many(3) == 0 || random.nextInt(100) < boldness) {
            actOutside();
        } else if (m.many(4) == 1) {
            actInFinal();
        } else {
            actInRound();
        }
    }

    private void actOutside() {
        int kind = random.nextInt(20);
        int club = below(6);
        if (kind == 0) {
            both("couple(" + club + ")", () -> x.couple(club), () -> m.couple(club));
        } else if (kind == 1) {
            both("judge(" + club + ")", () -> x.judge(club), () -> m.judge(club));
        } else {
            int all = (1 << m.many(0)) - 1;
            int couples = random.nextInt(3) == 0 ? all : subsetOf(all, 3 + random.nextInt(5));
            int dances = 1 + below(5);
            both("open(" + couples + ", " + dances + ")", () -> x.open(couples, dances), () -> m.open(couples, dances));
        }
    }

    private void actInRound() {
        int inside = m.many(8);
        int number = Integer.bitCount(inside);
        int kind = random.nextInt(12);
        if (kind < 2) {
            int quota = 2 + below(Math.max(number - 2, 1));
            int size = 2 + below(5);
            both("round(" + quota + ", " + size + ")", () -> x.round(quota, size), () -> m.round(quota, size));
        } else if (kind < 4) {
            both("dance()", () -> x.dance(), () -> m.dance());
        } else if (kind < 9) {
            int judge = panelMember();
            int dance = below(m.many(7));
            int couples = subsetOf(inside, 2 + random.nextInt(Math.max(number - 2, 1)));
            both("cross(" + judge + ", " + dance + ", " + couples + ")", () -> x.cross(judge, dance, couples),
                    () -> m.cross(judge, dance, couples));
        } else if (kind < 11) {
            both("cut()", () -> x.cut(), () -> m.cut());
        } else {
            both("begin()", () -> x.begin(), () -> m.begin());
        }
    }

    private void actInFinal() {
        int kind = random.nextInt(100);
        int judge = panelMember();
        int dance = below(m.many(6));
        if (kind < 75) {
            int marks = marks();
            both("sheet(" + judge + ", " + dance + ", " + marks + ")", () -> x.sheet(judge, dance, marks),
                    () -> m.sheet(judge, dance, marks));
        } else if (kind < 85) {
            both("lose(" + judge + ", " + dance + ")", () -> x.lose(judge, dance), () -> m.lose(judge, dance));
        } else if (kind < 96) {
            int couple = memberOf(m.many(8));
            boolean is = random.nextInt(3) == 0;
            both("penalise(" + couple + ", " + dance + ", " + is + ")", () -> x.penalise(couple, dance, is),
                    () -> m.penalise(couple, dance, is));
        } else if (random.nextInt(2) == 0) {
            both("close()", () -> x.close(), () -> m.close());
        } else {
            int quota = 2 + below(4);
            both("round(" + quota + ", 3)", () -> x.round(quota, 3), () -> m.round(quota, 3));
        }
    }

    private void ask() {
        int what = below(11);
        int couple = below(m.many(0));
        int judge = below(m.many(1));
        both("many(" + what + ")", () -> x.many(what), () -> m.many(what));
        both("ofCouple(" + couple + ", " + what + ")", () -> x.ofCouple(couple, what), () -> m.ofCouple(couple, what));
        both("ofJudge(" + judge + ", " + what + ")", () -> x.ofJudge(judge, what), () -> m.ofJudge(judge, what));
        both("meetings(" + couple + ", " + what + ")", () -> x.meetings(couple, what), () -> m.meetings(couple, what));
        both("meanStanding()", () -> x.meanStanding(), () -> m.meanStanding());
        if (random.nextInt(4) == 0) {
            askAll();
        }
        if (m.many(4) == 1 || random.nextInt(100) < boldness) {
            askInFinal();
        }
    }

    private void askAll() {
        for (int couple = 0; couple < m.many(0); couple++) {
            int c = couple;
            for (int what = 0; what < 8; what++) {
                int w = what;
                both("ofCouple(" + c + ", " + w + ")", () -> x.ofCouple(c, w), () -> m.ofCouple(c, w));
            }
            both("meetings(" + c + ", 0)", () -> x.meetings(c, 0), () -> m.meetings(c, 0));
        }
        for (int judge = 0; judge < m.many(1); judge++) {
            int j = judge;
            both("ofJudge(" + j + ", 2)", () -> x.ofJudge(j, 2), () -> m.ofJudge(j, 2));
        }
        both("digest()", () -> x.digest(), () -> DigestTest.computed(x));
    }

    private void askInFinal() {
        int inside = m.many(8);
        for (int couple = 0; couple < 10; couple++) {
            if (m.many(4) == 1 && (inside & 1 << couple) != 0 && random.nextInt(3) == 0) {
                askOfFinalist(couple);
            }
        }
        int one = memberOf(inside);
        int other = memberOf(inside);
        int couple = memberOf(inside);
        int judge = panelMember();
        int dance = below(m.many(6));
        int judges = below(128);
        both("exchanged(" + judge + ", " + dance + ", " + one + ", " + other + ", " + couple + ")",
                () -> x.exchanged(judge, dance, one, other, couple),
                () -> m.exchanged(judge, dance, one, other, couple));
        both("without(" + judges + ", " + couple + ")", () -> x.without(judges, couple),
                () -> m.without(judges, couple));
        both("result(" + couple + ", 0)", () -> x.result(couple, 0), () -> m.result(couple, 0));
        both("placed(" + couple + ", " + dance + ", 1)", () -> x.placed(couple, dance, 1),
                () -> m.placed(couple, dance, 1));
        int p = 1 + below(Integer.bitCount(inside));
        both("votes(" + couple + ", " + dance + ", " + p + ")", () -> x.votes(couple, dance, p),
                () -> m.votes(couple, dance, p));
        if (random.nextInt(12) == 0) {
            both("bestExchange(" + judge + ", " + dance + ", " + couple + ")",
                    () -> x.bestExchange(judge, dance, couple), () -> m.bestExchange(judge, dance, couple));
            both("fragile()", () -> x.fragile(), () -> m.fragile());
            FRAGILE.add(x.fragile());
        }
    }

    private void askOfFinalist(int couple) {
        for (int what = 0; what < 3; what++) {
            int w = what;
            both("result(" + couple + ", " + w + ")", () -> x.result(couple, w), () -> m.result(couple, w));
        }
        for (int dance = 0; dance < m.many(6); dance++) {
            int d = dance;
            both("placed(" + couple + ", " + d + ", 0)", () -> x.placed(couple, d, 0), () -> m.placed(couple, d, 0));
            both("placed(" + couple + ", " + d + ", 1)", () -> x.placed(couple, d, 1), () -> m.placed(couple, d, 1));
            DANCE_REASONS.add(m.placed(couple, d, 1));
        }
        END_REASONS.add(m.result(couple, 1));
    }
}
