/** Promise 26: the checksum is made of the other answers, in the order that the document tells. */
public final class DigestTest {
    private DigestTest() {
    }

    public static void main(String[] args) {
        SkateSheet x = new SkateSheet();
        // 9107, then eleven zeros and the -1 of fragile().
        long fresh = 9107;
        for (int i = 0; i < 11; i++) {
            fresh = fresh * 31;
        }
        Check.due("digest() of a new object", x.digest(), fresh * 31 - 1);
        for (int couple = 0; couple < 10; couple++) {
            x.couple(couple % 3);
            dueDigest(x);
        }
        for (int judge = 0; judge < 7; judge++) {
            x.judge(judge < 2 ? 0 : 5);
            dueDigest(x);
        }
        x.open(1023, 2);
        dueDigest(x);
        x.round(5, 4);
        x.dance();
        x.cross(2, 0, 31);
        x.cross(3, 0, 62);
        dueDigest(x);
        x.dance();
        x.cross(4, 1, 124);
        x.cut();
        dueDigest(x);
        x.begin();
        dueDigest(x);
        x.sheet(2, 0, 54321);
        x.sheet(3, 0, 12345);
        x.sheet(4, 1, 21543);
        x.penalise(3, 1, true);
        dueDigest(x);
        x.close();
        dueDigest(x);
        Check.end();
    }

    private static void dueDigest(SkateSheet x) {
        Check.due("digest()", x.digest(), computed(x));
    }

    /** The checksum by the calls of the face alone. */
    static long computed(SkateSheet x) {
        long d = 9107;
        for (int what = 0; what <= 10; what++) {
            d = d * 31 + x.many(what);
        }
        for (int couple = 0; couple < x.many(0); couple++) {
            for (int what = 0; what <= 7; what++) {
                d = d * 31 + x.ofCouple(couple, what);
            }
            d = d * 31 + x.meetings(couple, 0);
            if (x.many(4) == 0 || x.ofCouple(couple, 4) == 0) {
                continue;
            }
            for (int what = 0; what <= 2; what++) {
                d = d * 31 + x.result(couple, what);
            }
            for (int dance = 0; dance < x.many(6); dance++) {
                d = d * 31 + x.placed(couple, dance, 0);
                d = d * 31 + x.placed(couple, dance, 1);
                d = d * 31 + x.votes(couple, dance, 1);
            }
        }
        for (int judge = 0; judge < x.many(1); judge++) {
            for (int what = 0; what <= 3; what++) {
                d = d * 31 + x.ofJudge(judge, what);
            }
        }
        return d * 31 + x.fragile();
    }
}
