/** Promises 1 to 4: a new object, pair, clear, make. */
final class HandTest {
    private static final Check check = new Check();

    public static void main(String[] args) {
        newObject();
        pairs();
        refusedPairs();
        fullHand();
        clears();
        makes();
        refusedMakes();
        reducing();
        check.end();
    }

    private static void newObject() {
        TreePairs x = new TreePairs();
        for (int a = 0; a < 12; a++) {
            check.due("new: leaves(" + a + ")", x.leaves(a), TreePairs.UNKNOWN);
        }
        for (int what = 0; what < 5; what++) {
            check.due("new: count(" + what + ")", x.count(what), 0);
        }
        check.due("new: seen(0)", x.seen(0), 0);
        check.due("new: seen(1)", x.seen(1), 0);
        check.due("new: clear", x.clear(), 0);
    }

    private static void pairs() {
        TreePairs x = new TreePairs();
        check.due("pair: first", x.pair(0, 0, 23, 8388607), 1);
        check.due("pair: second", x.pair(23, 8388607, 0, 0), 2);
        check.due("pair: the same again", x.pair(23, 8388607, 0, 0), 3);
        check.due("pair: counted", x.count(1), 3);
    }

    private static void refusedPairs() {
        TreePairs x = new TreePairs();
        int[][] bad = {{-1, 0}, {24, 0}, {0, 1}, {0, -1}, {3, 8}, {3, -1}, {23, 8388608}, {32, 0}, {64, 0},
            {Integer.MIN_VALUE, 0}, {Integer.MAX_VALUE, 0}, {5, Integer.MAX_VALUE}, {5, Integer.MIN_VALUE}};
        for (int[] leaf : bad) {
            check.due("pair: first leaf " + leaf[0] + ", " + leaf[1], x.pair(leaf[0], leaf[1], 0, 0), TreePairs.OUTSIDE);
            check.due("pair: second leaf " + leaf[0] + ", " + leaf[1], x.pair(0, 0, leaf[0], leaf[1]), TreePairs.OUTSIDE);
        }
        check.due("pair: refused ones are not at hand", x.count(1), 0);
    }

    private static void fullHand() {
        TreePairs x = new TreePairs();
        for (int i = 1; i <= 24; i++) {
            check.due("pair: " + i, x.pair(5, i, 5, i), i);
        }
        long before = x.digest();
        check.due("pair: a 25th", x.pair(5, 0, 5, 0), TreePairs.FULL);
        check.due("pair: OUTSIDE ahead of FULL", x.pair(5, 32, 5, 0), TreePairs.OUTSIDE);
        check.due("pair: refused ones change nothing", x.digest(), before);
        check.due("clear: 24", x.clear(), 24);
        check.due("pair: after clear", x.pair(0, 0, 0, 0), 1);
    }

    private static void clears() {
        TreePairs x = new TreePairs();
        Check.put(x, 1, 0, 1, 0, 1, 1, 1, 1);
        check.due("clear: two", x.clear(), 2);
        check.due("clear: none", x.clear(), 0);
        check.due("clear: none at hand", x.count(1), 0);
        check.due("clear: no map of them", x.make(0), TreePairs.STATE);
    }

    private static void makes() {
        TreePairs x = new TreePairs();
        Check.put(x, 2, 3, 1, 1, 1, 0, 2, 1, 2, 2, 2, 0);
        check.due("make: three", x.make(11), 3);
        check.due("make: none at hand then", x.count(1), 0);
        check.map("make: from left to right", x, 11, 1, 0, 2, 1, 2, 2, 2, 0, 2, 3, 1, 1);
        Check.put(x, 1, 1, 1, 0, 1, 0, 1, 1);
        check.due("make: over another", x.make(11), 2);
        check.map("make: over another", x, 11, 1, 0, 1, 1, 1, 1, 1, 0);
        Check.put(x, 0, 0, 0, 0);
        check.due("make: NOTHING", x.make(0), 1);
        check.map("make: NOTHING", x, 0, 0, 0, 0, 0);
        deepest(x);
    }

    private static void deepest(TreePairs x) {
        for (int d = 1; d <= 23; d++) {
            x.pair(d, (1 << d) - 2, 24 - d, 1);
        }
        x.pair(23, 8388607, 23, 0);
        check.due("make: 24 leaves", x.make(3), 24);
        check.due("make: 24 leaves, the last one's d", x.leaf(3, 23, 0), 23);
        check.due("make: 24 leaves, the last one's c", x.leaf(3, 23, 1), 8388607);
        check.due("make: 24 leaves, its image", x.leaf(3, 0, 2), 23);
    }

    private static void refusedMakes() {
        int[][] noCuts = {
            {}, {1, 0, 0, 0}, {1, 0, 1, 0}, {1, 1, 1, 1},
            {1, 0, 1, 0, 1, 0, 1, 1}, {1, 0, 1, 1, 1, 1, 1, 1},
            {0, 0, 0, 0, 0, 0, 0, 0}, {0, 0, 1, 0, 1, 0, 1, 1}, {1, 0, 0, 0, 1, 1, 1, 1},
            {1, 0, 1, 0, 2, 2, 1, 1}, {1, 0, 1, 0, 1, 1, 2, 3},
            {1, 0, 1, 0, 2, 2, 2, 2, 2, 2, 2, 3}, {1, 0, 1, 0, 2, 2, 2, 3, 2, 3, 2, 3},
            {2, 1, 2, 0, 2, 2, 2, 1, 1, 1, 1, 1}};
        for (int[] told : noCuts) {
            TreePairs x = new TreePairs();
            x.strong(0, 0);
            Check.put(x, told);
            long before = x.digest();
            check.due("make: no cut of " + told.length / 4, x.make(0), TreePairs.STATE);
            check.due("make: no cut, UNKNOWN first", x.make(12), TreePairs.UNKNOWN);
            check.due("make: no cut changes nothing", x.digest(), before);
        }
        TreePairs x = new TreePairs();
        Check.put(x, 0, 0, 0, 0);
        check.due("make(-1)", x.make(-1), TreePairs.UNKNOWN);
        check.due("make(12)", x.make(12), TreePairs.UNKNOWN);
        check.due("make(MIN)", x.make(Integer.MIN_VALUE), TreePairs.UNKNOWN);
        check.due("make: UNKNOWN leaves the hand", x.count(1), 1);
    }

    private static void reducing() {
        TreePairs x = new TreePairs();
        Check.put(x, 2, 0, 2, 2, 2, 1, 2, 3, 2, 2, 2, 0, 2, 3, 2, 1);
        check.due("make: two and two reduced", x.make(0), 2);
        check.map("make: two and two reduced", x, 0, 1, 0, 1, 1, 1, 1, 1, 0);
        Check.put(x, 3, 0, 3, 0, 3, 1, 3, 1, 2, 1, 2, 1, 1, 1, 1, 1);
        check.due("make: again and again", x.make(0), 1);
        Check.put(x, 2, 0, 2, 1, 2, 1, 2, 0, 1, 1, 1, 1);
        check.due("make: changed halves stay", x.make(0), 3);
        Check.put(x, 2, 0, 2, 0, 2, 1, 2, 2, 2, 2, 2, 1, 2, 3, 2, 3);
        check.due("make: neighbours that are no halves stay", x.make(0), 4);
        Check.put(x, 1, 0, 2, 0, 2, 2, 2, 1, 2, 3, 1, 1);
        check.due("make: unlike lengths stay", x.make(0), 3);
        Check.put(x, 1, 0, 2, 0, 3, 6, 3, 4, 3, 7, 3, 5, 2, 2, 2, 1, 0, 0, 0, 0);
        check.due("make: not with one too many", x.make(0), TreePairs.STATE);
        x.clear();
        Check.put(x, 1, 0, 2, 0, 3, 6, 2, 2, 3, 7, 2, 3, 2, 2, 2, 1);
        check.due("make: reduced onto larger ones", x.make(0), 3);
        check.map("make: reduced onto larger ones", x, 0, 1, 0, 2, 0, 2, 2, 2, 1, 2, 3, 1, 1);
    }
}
