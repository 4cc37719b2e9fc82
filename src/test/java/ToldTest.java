/** Promises 24 and 25: count, digest. */
final class ToldTest {
    private static final Check check = new Check();

    public static void main(String[] args) {
        counts();
        digests();
        check.end();
    }

    private static void counted(TreePairs x, String when, int... want) {
        for (int what = 0; what < 5; what++) {
            check.due(when + ": count(" + what + ")", x.count(what), want[what]);
        }
    }

    private static void counts() {
        TreePairs x = new TreePairs();
        counted(x, "at first", 0, 0, 0, 0, 0);
        x.strong(0, 0);
        x.strong(11, 3);
        Check.put(x, 1, 0, 1, 1, 1, 1, 1, 0);
        counted(x, "two at hand", 2, 2, 2, 0, 0);
        x.make(4);
        counted(x, "a round one", 3, 0, 2, 1, 0);
        Check.put(x, 1, 0, 2, 1, 2, 2, 2, 0, 2, 3, 1, 1);
        x.make(5);
        x.turn(6, 5);
        x.turn(7, 5);
        Check.put(x, 0, 0, 0, 0);
        counted(x, "three anyhow", 6, 1, 2, 1, 3);
        x.drop(11);
        x.drop(7);
        counted(x, "two dropped", 4, 1, 1, 1, 2);
        check.due("count(5)", x.count(5), TreePairs.OUTSIDE);
        check.due("count(-1)", x.count(-1), TreePairs.OUTSIDE);
        check.due("count(MIN)", x.count(Integer.MIN_VALUE), TreePairs.OUTSIDE);
    }

    private static long over(long... told) {
        long h = 167;
        for (long it : told) {
            h = 31 * h + it;
        }
        return h;
    }

    private static void digests() {
        TreePairs x = new TreePairs();
        check.due("digest: at first", x.digest(), over(-1, -1, -1, -1, -1, -1, -1, -1, -1, -1, -1, -1, 0, 0));
        Check.put(x, 2, 3, 5, 7, 23, 8388607, 0, 0);
        check.due("digest: at hand", x.digest(),
            over(-1, -1, -1, -1, -1, -1, -1, -1, -1, -1, -1, -1, 2, 3, 5, 7, 23, 8388607, 0, 0, 0, 0));
        x.strong(1, 0);
        x.power(11, 1, 0);
        x.go(1, 3, 5);
        check.due("digest: all", x.digest(),
            over(-1, 3, 1, 0, 2, 0, 2, 2, 2, 1, 2, 3, 1, 1, -1, -1, -1, -1, -1, -1, -1, -1, -1, 1, 0, 0, 0, 0,
                2, 3, 5, 7, 23, 8388607, 0, 0, 3, 3));
        x.drop(1);
        x.drop(11);
        x.clear();
        check.due("digest: dropped", x.digest(), over(-1, -1, -1, -1, -1, -1, -1, -1, -1, -1, -1, -1, 3, 3));
    }
}
