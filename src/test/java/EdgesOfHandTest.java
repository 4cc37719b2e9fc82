/** The edges of promises 1 to 4: a new object, pair, clear, make. */
final class EdgesOfHandTest {
    private static final Check check = new Check();
    private static final int UNKNOWN = TreePairs.UNKNOWN, OUTSIDE = TreePairs.OUTSIDE;
    private static final int STATE = TreePairs.STATE, FULL = TreePairs.FULL;

    public static void main(String[] args) {
        noMaps();
        emptyHand();
        nothingShared();
        pairTellsHowMany();
        pairOutside();
        pairFull();
        pairOutsideAheadOfFull();
        fullHandStaysAtHand();
        clearEmpty();
        clearFull();
        clearLeavesTheRest();
        makeNumbers();
        makeUnknownAheadOfState();
        makeEmptyHand();
        makeStateKeepsTheHand();
        makeEmptiesTheHand();
        makeOverAnother();
        makeTellsLeavesReduced();
        check.end();
    }

    private static void noMaps() {
        check.about("Promise 1: no MAPS");
        TreePairs x = new TreePairs();
        for (int a = 0; a < 12; a++) {
            int t = a;
            check.stays("leaves(" + a + ")", x, () -> x.leaves(t), UNKNOWN);
            check.stays("drop(" + a + ")", x, () -> x.drop(t), UNKNOWN);
        }
        check.due("count(0)", x.count(0), 0);
    }

    private static void emptyHand() {
        check.about("Promise 1: THE HAND is empty");
        TreePairs x = new TreePairs();
        check.due("count(1)", x.count(1), 0);
        check.stays("clear", x, x::clear, 0);
        check.stays("make", x, () -> x.make(0), STATE);
        check.due("pair", x.pair(0, 0, 0, 0), 1);
    }

    private static void nothingShared() {
        check.about("Promise 1: each object has its own");
        TreePairs x = new TreePairs();
        TreePairs y = new TreePairs();
        long fresh = y.digest();
        x.strong(0, 0);
        x.pair(0, 0, 0, 0);
        x.go(0, 3, 5);
        check.due("the other one", y.digest(), fresh);
        check.due("a later one", new TreePairs().digest(), fresh);
        y.strong(0, 1);
        check.due("leaves of the one", x.leaves(0), 3);
        check.due("leaves of the other", y.leaves(0), 4);
    }

    private static void pairTellsHowMany() {
        check.about("Promise 2: how many");
        TreePairs x = new TreePairs();
        for (int i = 1; i <= 24; i++) {
            check.due("pair " + i, x.pair(23, 8388607, 23, 8388607), i);
            check.due("count(1)", x.count(1), i);
        }
    }

    private static void pairOutside() {
        check.about("Promise 2: OUTSIDE");
        TreePairs x = new TreePairs();
        x.pair(1, 0, 1, 0);
        int[] least = {0, 0, 0, 0};
        int[] most = {23, 8388607, 23, 8388607};
        check.due("all least", x.pair(least[0], least[1], least[2], least[3]), 2);
        check.due("all most", x.pair(most[0], most[1], most[2], most[3]), 3);
        for (int at = 0; at < 4; at++) {
            int[] below = least.clone();
            below[at] = -1;
            int[] above = most.clone();
            above[at]++;
            check.stays(at + " below", x, () -> x.pair(below[0], below[1], below[2], below[3]), OUTSIDE);
            check.stays(at + " above", x, () -> x.pair(above[0], above[1], above[2], above[3]), OUTSIDE);
        }
        check.stays("(0, 1)", x, () -> x.pair(0, 1, 0, 0), OUTSIDE);
        check.stays("onto (0, 1)", x, () -> x.pair(0, 0, 0, 1), OUTSIDE);
        check.due("the next one", x.pair(0, 0, 0, 0), 4);
    }

    private static void fill(TreePairs x) {
        Cuts.put(x, Cuts.right(24), Cuts.left(24));
    }

    private static void pairFull() {
        check.about("Promise 2: FULL: 24 pairs");
        TreePairs x = new TreePairs();
        Cuts.put(x, Cuts.right(23), Cuts.left(23));
        check.due("the 24th", x.pair(0, 0, 0, 0), 24);
        check.stays("the 25th", x, () -> x.pair(0, 0, 0, 0), FULL);
        check.stays("again", x, () -> x.pair(23, 8388607, 23, 8388607), FULL);
    }

    private static void pairOutsideAheadOfFull() {
        check.about("Promise 2: OUTSIDE ahead of FULL");
        TreePairs x = new TreePairs();
        fill(x);
        check.stays("d", x, () -> x.pair(24, 0, 0, 0), OUTSIDE);
        check.stays("c", x, () -> x.pair(0, 1, 0, 0), OUTSIDE);
        check.stays("e", x, () -> x.pair(0, 0, -1, 0), OUTSIDE);
        check.stays("b", x, () -> x.pair(0, 0, 0, -1), OUTSIDE);
    }

    private static void fullHandStaysAtHand() {
        check.about("Promise 2: FULL changes nothing");
        TreePairs x = new TreePairs();
        fill(x);
        x.pair(0, 0, 0, 0);
        x.pair(24, 0, 0, 0);
        check.due("make of the 24", x.make(0), 24);
        check.due("last c", x.leaf(0, 23, 1), 8388607);
        check.due("then the hand takes one", x.pair(0, 0, 0, 0), 1);
    }

    private static void clearEmpty() {
        check.about("Promise 3: how many were: none");
        TreePairs x = new TreePairs();
        check.stays("clear", x, x::clear, 0);
        x.pair(0, 0, 0, 0);
        check.due("clear of one", x.clear(), 1);
        check.stays("clear again", x, x::clear, 0);
    }

    private static void clearFull() {
        check.about("Promise 3: how many were: 24");
        TreePairs x = new TreePairs();
        fill(x);
        x.pair(0, 0, 0, 0);
        check.due("clear", x.clear(), 24);
        check.due("count(1)", x.count(1), 0);
        check.due("pair", x.pair(0, 0, 0, 0), 1);
        check.due("make", x.make(0), 1);
    }

    private static void clearLeavesTheRest() {
        check.about("Promise 3: no pairs are at hand, all else stays");
        TreePairs x = new TreePairs();
        x.strong(0, 0);
        x.go(0, 3, 5);
        long before = x.digest();
        fill(x);
        x.clear();
        check.due("digest", x.digest(), before);
        check.due("the map", x.leaves(0), 3);
        check.due("the seen point", x.seen(1), 3);
    }

    private static void makeNumbers() {
        check.about("Promise 4: UNKNOWN: t");
        TreePairs x = new TreePairs();
        check.due("make(0)", Cuts.make(x, 0, Cuts.even(1), Cuts.round(Cuts.even(1), 1)), 2);
        check.due("make(11)", Cuts.make(x, 11, Cuts.right(3), Cuts.left(3)), 3);
        x.pair(0, 0, 0, 0);
        for (int t : Cuts.NO_NUMBER) {
            check.stays("make(" + t + ")", x, () -> x.make(t), UNKNOWN);
        }
        check.due("make(5)", x.make(5), 1);
    }

    private static void makeUnknownAheadOfState() {
        check.about("Promise 4: UNKNOWN ahead of STATE");
        TreePairs x = new TreePairs();
        for (int t : Cuts.NO_NUMBER) {
            check.stays("none at hand: make(" + t + ")", x, () -> x.make(t), UNKNOWN);
        }
        x.pair(1, 0, 1, 0);
        for (int t : Cuts.NO_NUMBER) {
            check.stays("no cut: make(" + t + ")", x, () -> x.make(t), UNKNOWN);
        }
    }

    private static void makeEmptyHand() {
        check.about("Promise 4: STATE: no pairs are no CUT");
        TreePairs x = new TreePairs();
        check.stays("not there yet", x, () -> x.make(0), STATE);
        x.strong(0, 0);
        check.stays("there", x, () -> x.make(0), STATE);
    }

    private static void makeStateKeepsTheHand() {
        check.about("Promise 4: STATE changes nothing");
        TreePairs x = new TreePairs();
        x.strong(0, 2);
        Check.put(x, 2, 3, 1, 1, 1, 0, 2, 1);
        check.stays("a quarter is wanting", x, () -> x.make(0), STATE);
        x.pair(2, 2, 2, 0);
        check.due("with it", x.make(0), 3);
        check.map("with it", x, 0, 1, 0, 2, 1, 2, 2, 2, 0, 2, 3, 1, 1);
        Check.put(x, 1, 0, 1, 0, 1, 1, 1, 0);
        check.stays("the second ones are no cut", x, () -> x.make(0), STATE);
        check.due("the hand", x.clear(), 2);
        Check.put(x, 1, 0, 1, 0, 1, 0, 1, 1);
        check.stays("the first ones are no cut", x, () -> x.make(0), STATE);
        check.due("the hand", x.clear(), 2);
    }

    private static void makeEmptiesTheHand() {
        check.about("Promise 4: none are at hand then");
        TreePairs x = new TreePairs();
        fill(x);
        check.due("make", x.make(0), 24);
        check.due("count(1)", x.count(1), 0);
        check.stays("make again", x, () -> x.make(1), STATE);
        check.stays("clear", x, x::clear, 0);
        check.due("pair", x.pair(0, 0, 0, 0), 1);
    }

    private static void makeOverAnother() {
        check.about("Promise 4: MAP t becomes");
        TreePairs x = new TreePairs();
        fill(x);
        x.make(3);
        x.strong(4, 0);
        x.pair(0, 0, 0, 0);
        check.due("1 over 24", x.make(3), 1);
        check.map("1 over 24", x, 3, 0, 0, 0, 0);
        check.due("the 2nd pair is no more", x.leaf(3, 1, 0), UNKNOWN);
        fill(x);
        check.due("24 over 1", x.make(3), 24);
        check.due("another stays", x.leaves(4), 3);
        check.due("count(0)", x.count(0), 2);
    }

    private static void makeTellsLeavesReduced() {
        check.about("Promise 4: how many LEAVES it has, REDUCED");
        TreePairs x = new TreePairs();
        check.due("24 to 1", Cuts.make(x, 0, Cuts.left(24), Cuts.left(24)), 1);
        int[][] comb = Cuts.in(1, 1, Cuts.right(23));
        int[][] half = {{1, 0}};
        check.due("24 to 24", Cuts.make(x, 0, Cuts.join(half, comb), Cuts.join(half, Cuts.round(comb, 1))), 24);
        int[][] left = Cuts.left(23);
        int[][] from = Cuts.join(Cuts.in(1, 0, left), new int[][] {{1, 1}});
        int[][] onto = Cuts.join(Cuts.in(1, 1, left), new int[][] {{1, 0}});
        check.due("24 to 2", Cuts.make(x, 0, from, onto), 2);
    }
}
