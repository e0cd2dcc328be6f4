/** What the tests share: each answer is compared, and a test program ends with 1 if one was wrong. */
final class Check {
    interface Call {
        Object answer();
    }

    private static int wrong = 0;
    private static int compared = 0;

    private Check() {
    }

    static void due(String call, double got, double want) {
        compared++;
        if (got != want) {
            complain(call + " answered " + got + ", due is " + want);
        }
    }

    static void due(String call, long got, long want) {
        compared++;
        if (got != want) {
            complain(call + " answered " + got + ", due is " + want);
        }
    }

    static void due(String call, boolean got, boolean want) {
        due(call, got ? 1 : 0, want ? 1 : 0);
    }

    static void due(String call, String got, String want) {
        compared++;
        if (!got.equals(want)) {
            complain(call + " answered " + got + ", due is " + want);
        }
    }

    /** The call throws just this exception, and the checksum of the object stays as it was. */
    static void refused(SkateSheet sheet, String call, Class<?> exception, Call made) {
        long before = sheet.digest();
        due(call, outcome(made), "throws." + exception.getSimpleName());
        due("digest() behind the refused " + call, sheet.digest(), before);
    }

    static String outcome(Call made) {
        try {
            return String.valueOf(made.answer());
        } catch (RuntimeException e) {
            return "throws." + e.getClass().getSimpleName();
        }
    }

    static void complain(String text) {
        wrong++;
        if (wrong <= 50) {
            System.out.println(text);
        }
    }

    static int wrongOnes() {
        return wrong;
    }

    static void end() {
        System.out.println(compared + " compared, " + wrong + " wrong");
        if (wrong != 0) {
            System.exit(1);
        }
    }
}
