/** The edges of promises 24 and 25: count, digest. */
final class EdgesOfToldTest {
    private static final Check check = new Check();
    private static final int OUTSIDE = TreePairs.OUTSIDE;

    public static void main(String[] args) {
        countOutside();
        countEmpty();
        countTwelveOfEach();
        countPairs();
        countRefused();
        digestEmpty();
        digestOfEachPart();
        digestFull();
        askingChangesNothing();
        check.end();
    }

    private static void counts(TreePairs x, String name, int... due) {
        for (int what = 0; what < 5; what++) {
            check.due(name + ": count(" + what + ")", x.count(what), due[what]);
        }
    }

    private static void countOutside() {
        check.about("Promise 24: OUTSIDE: what is 0 to 4");
        TreePairs x = new TreePairs();
        x.strong(0, 0);
        x.pair(0, 0, 0, 0);
        counts(x, "taken", 1, 1, 1, 0, 0);
        int[] beyond = {-1, 5, Integer.MIN_VALUE, Integer.MAX_VALUE};
        for (int what : beyond) {
            check.stays("count(" + what + ")", x, () -> x.count(what), OUTSIDE);
        }
    }

    private static void countEmpty() {
        check.about("Promise 24: none");
        TreePairs x = new TreePairs();
        counts(x, "at first", 0, 0, 0, 0, 0);
        x.strong(3, 0);
        x.pair(0, 0, 0, 0);
        x.drop(3);
        x.clear();
        counts(x, "again", 0, 0, 0, 0, 0);
    }

    private static void countTwelveOfEach() {
        check.about("Promise 24: 0 MAPS there are, 2 IN ORDER, 3 ROUND, 4 ANYHOW");
        TreePairs x = new TreePairs();
        int[][] comb = Cuts.right(24);
        for (int t = 0; t < 12; t++) {
            Cuts.make(x, t, comb, Cuts.left(24));
            counts(x, "in order", t + 1, 0, t + 1, 0, 0);
        }
        for (int t = 0; t < 12; t++) {
            Cuts.make(x, t, comb, Cuts.round(comb, 1 + t));
            counts(x, "round", 12, 0, 11 - t, t + 1, 0);
        }
        for (int t = 0; t < 12; t++) {
            Cuts.make(x, t, comb, Cuts.exchanged(comb, t, t + 1));
            counts(x, "anyhow", 12, 0, 0, 11 - t, t + 1);
        }
        for (int t = 0; t < 12; t++) {
            x.drop(t);
            counts(x, "dropped", 11 - t, 0, 0, 0, 11 - t);
        }
    }

    private static void countPairs() {
        check.about("Promise 24: 1 pairs at hand: 0 to 24");
        TreePairs x = new TreePairs();
        for (int i = 0; i < 24; i++) {
            counts(x, "pairs", 0, i, 0, 0, 0);
            x.pair(23, 0, 23, 0);
        }
        counts(x, "pairs", 0, 24, 0, 0, 0);
        x.pair(23, 0, 23, 0);
        counts(x, "one refused", 0, 24, 0, 0, 0);
        x.clear();
        counts(x, "cleared", 0, 0, 0, 0, 0);
    }

    private static void countRefused() {
        check.about("Promise 24: a refused MAP is not counted");
        TreePairs x = new TreePairs();
        x.strong(0, 0);
        x.power(1, 0, 12);
        x.then(2, 1, 1);
        x.power(3, 0, 13);
        x.strong(4, 7);
        x.turn(5, 6);
        x.make(7);
        counts(x, "refused", 2, 0, 2, 0, 0);
    }

    private static long over(long... told) {
        long h = 167;
        for (long it : told) {
            h = 31 * h + it;
        }
        return h;
    }

    private static void digestEmpty() {
        check.about("Promise 25: -1 (not there)");
        TreePairs x = new TreePairs();
        check.due("at first", x.digest(), over(-1, -1, -1, -1, -1, -1, -1, -1, -1, -1, -1, -1, 0, 0));
    }

    private static void digestOfEachPart() {
        check.about("Promise 25: of each MAP .., of pairs at hand .., SEEN");
        for (int t = 0; t < 12; t++) {
            TreePairs x = new TreePairs();
            Cuts.make(x, t, Cuts.even(1), Cuts.round(Cuts.even(1), 1));
            long h = 167;
            for (int a = 0; a < 12; a++) {
                h = a == t ? 31 * h + 2 : 31 * h - 1;
                int[] pairs = a == t ? new int[] {1, 0, 1, 1, 1, 1, 1, 0} : new int[0];
                for (int it : pairs) {
                    h = 31 * h + it;
                }
            }
            check.due("map " + t + " alone", x.digest(), 31 * (31 * h));
        }
        TreePairs x = new TreePairs();
        x.pair(23, 8388607, 22, 4194302);
        check.due("a pair", x.digest(),
            over(-1, -1, -1, -1, -1, -1, -1, -1, -1, -1, -1, -1, 23, 8388607, 22, 4194302, 0, 0));
        x.clear();
        Cuts.make(x, 0, Cuts.right(24), Cuts.left(24));
        x.go(0, 30, 1);
        x.drop(0);
        check.due("the seen point", x.digest(), over(-1, -1, -1, -1, -1, -1, -1, -1, -1, -1, -1, -1, 52, 1));
    }

    private static void digestFull() {
        check.about("Promise 25: 12 MAPS of 24 LEAVES, 24 pairs at hand; wrapping");
        TreePairs x = new TreePairs();
        int[][] comb = Cuts.right(24);
        long h = 167;
        for (int t = 0; t < 12; t++) {
            int[][] onto = Cuts.round(comb, t + 1);
            Cuts.make(x, t, comb, onto);
            h = mixed(31 * h + 24, comb, onto);
        }
        Cuts.put(x, comb, Cuts.left(24));
        h = mixed(h, comb, Cuts.left(24));
        check.due("before a point is seen", x.digest(), 31 * (31 * h));
        x.go(0, 30, 1073741823);
        check.due("after it", x.digest(), 31 * (31 * h + x.seen(0)) + x.seen(1));
    }

    private static long mixed(long start, int[][] from, int[][] onto) {
        long h = start;
        for (int i = 0; i < from.length; i++) {
            h = 31 * (31 * h + from[i][0]) + from[i][1];
            h = 31 * (31 * h + onto[i][0]) + onto[i][1];
        }
        return h;
    }

    private static void askingChangesNothing() {
        check.about("Promises 24 and 25: asking changes nothing");
        TreePairs x = new TreePairs();
        x.strong(0, 0);
        x.pair(0, 0, 0, 0);
        x.go(0, 3, 5);
        check.stays("count(0)", x, () -> x.count(0), 1);
        check.stays("count(1)", x, () -> x.count(1), 1);
        check.stays("digest", x, () -> x.digest(), x.digest());
    }
}
