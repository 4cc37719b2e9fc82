/** The edges of promises 18 to 23: go, seen, bend, still, single, point. */
final class EdgesOfPointsTest {
    private static final Check check = new Check();
    private static final int UNKNOWN = TreePairs.UNKNOWN, OUTSIDE = TreePairs.OUTSIDE;
    private static final int NO_BEND = -1000;

    public static void main(String[] args) {
        goUnknown();
        goDepth();
        goPlace();
        goUnknownAheadOfOutside();
        goInOtherTerms();
        goDeepest();
        goAtTheEnds();
        seenAtFirst();
        seenOutside();
        seenLowestTerms();
        bendUnknown();
        bendFirst();
        bendMost();
        stillUnknown();
        stillCounts();
        singleUnknown();
        singleEnds();
        singleMost();
        pointUnknown();
        pointOutside();
        pointUnknownAheadOfOutside();
        pointNone();
        pointLowestTerms();
        pointDeepest();
        askingChangesNothing();
        check.end();
    }

    private static void seenIs(TreePairs x, String name, int d, long c) {
        check.due(name + ": seen(0)", x.seen(0), d);
        check.due(name + ": seen(1)", x.seen(1), c);
    }

    private static void nothing(TreePairs x, int t) {
        Cuts.make(x, t, Cuts.right(1), Cuts.right(1));
    }

    private static void goUnknown() {
        check.about("Promise 18: UNKNOWN");
        TreePairs x = new TreePairs();
        x.strong(0, 0);
        x.strong(11, 0);
        check.due("go(11, 3, 5)", x.go(11, 3, 5), 1);
        for (int n : Cuts.NOBODY) {
            check.stays("go(" + n + ", 0, 0)", x, () -> x.go(n, 0, 0), UNKNOWN);
        }
        seenIs(x, "still", 3, 3);
    }

    private static void goDepth() {
        check.about("Promise 18: OUTSIDE: d is 0 to 30");
        TreePairs x = new TreePairs();
        x.strong(0, 0);
        check.due("d 0", x.go(0, 0, 0), 1);
        check.due("d 30", x.go(0, 30, 1), 1);
        seenIs(x, "d 30", 31, 1);
        int[] beyond = {-1, 31, 32, 62, 63, 64, -30, Integer.MIN_VALUE, Integer.MAX_VALUE};
        for (int d : beyond) {
            check.stays("d " + d + ", c 0", x, () -> x.go(0, d, 0), OUTSIDE);
            check.stays("d " + d + ", c 1", x, () -> x.go(0, d, 1), OUTSIDE);
        }
    }

    private static void goPlace() {
        check.about("Promise 18: OUTSIDE: c by 2^d is not below 0, and below 1");
        TreePairs x = new TreePairs();
        nothing(x, 0);
        for (int d = 0; d <= 30; d++) {
            int depth = d;
            long end = 1L << d;
            check.due("0 by 2^" + d, x.go(0, d, 0), 1);
            seenIs(x, "0 by 2^" + d, 0, 0);
            check.due("the last by 2^" + d, x.go(0, d, end - 1), 1);
            seenIs(x, "the last by 2^" + d, d, end - 1);
            long[] beyond = {-1, end, end + 1, 1L << 31, 1L << 32, (1L << 32) + 1, Long.MIN_VALUE, Long.MAX_VALUE};
            for (long c : beyond) {
                check.stays(c + " by 2^" + d, x, () -> x.go(0, depth, c), OUTSIDE);
            }
        }
    }

    private static void goUnknownAheadOfOutside() {
        check.about("Promise 18: UNKNOWN ahead of OUTSIDE");
        TreePairs x = new TreePairs();
        x.strong(0, 0);
        for (int n : Cuts.NOBODY) {
            check.stays("go(" + n + ", 31, 0)", x, () -> x.go(n, 31, 0), UNKNOWN);
            check.stays("go(" + n + ", 0, 1)", x, () -> x.go(n, 0, 1), UNKNOWN);
        }
    }

    private static void goInOtherTerms() {
        check.about("Promise 18: c by 2^d need not be in lowest terms");
        TreePairs x = new TreePairs();
        x.strong(0, 0);
        for (int d = 3; d <= 30; d++) {
            x.go(0, 0, 0);
            check.due("5 by 8, by 2^" + d, x.go(0, d, 5L << (d - 3)), 1);
            seenIs(x, "5 by 8, by 2^" + d, 3, 3);
        }
    }

    private static void goDeepest() {
        check.about("Promise 18: from the largest LEAF into the least, and back");
        TreePairs x = new TreePairs();
        Cuts.make(x, 0, Cuts.right(24), Cuts.left(24));
        x.turn(1, 0);
        x.go(0, 30, 536870911);
        seenIs(x, "the last of the left half", 52, 536870911);
        x.go(0, 30, 1);
        seenIs(x, "the first behind 0", 52, 1);
        x.go(0, 30, 1073741823);
        seenIs(x, "the last one", 8, 255);
        x.go(1, 30, 1);
        seenIs(x, "turned: the first behind 0", 8, 1);
        x.go(1, 30, 127);
        seenIs(x, "turned: the last of the least", 8, 127);
        x.go(1, 30, 128);
        seenIs(x, "turned: the next leaf", 1, 1);
        x.go(1, 30, 1073741823);
        seenIs(x, "turned: the last one", 52, (1L << 52) - 1);
    }

    private static void goAtTheEnds() {
        check.about("Promise 18: where one LEAF ends, the next one has the point");
        TreePairs x = new TreePairs();
        Cuts.make(x, 0, Cuts.even(2), Cuts.round(Cuts.even(2), 3));
        long[] due = {3, 0, 1, 2};
        for (int i = 0; i < 4; i++) {
            x.go(0, 30, ((long) i << 28) + 1);
            seenIs(x, "behind the start of " + i, 30, (due[i] << 28) + 1);
            x.go(0, 30, ((i + 1L) << 28) - 1);
            seenIs(x, "ahead of the end of " + i, 30, ((due[i] + 1) << 28) - 1);
        }
        x.go(0, 2, 0);
        seenIs(x, "0", 2, 3);
        x.go(0, 2, 1);
        seenIs(x, "1 by 4", 0, 0);
        x.go(0, 2, 2);
        seenIs(x, "2 by 4", 2, 1);
        x.go(0, 2, 3);
        seenIs(x, "3 by 4", 1, 1);
    }

    private static void seenAtFirst() {
        check.about("Promise 19: 0 by 1 at first");
        TreePairs x = new TreePairs();
        check.stays("seen(0)", x, () -> (int) x.seen(0), 0);
        check.stays("seen(1)", x, () -> (int) x.seen(1), 0);
        x.go(0, 0, 0);
        x.strong(0, 0);
        x.go(0, 31, 0);
        seenIs(x, "after refused ones", 0, 0);
    }

    private static void seenOutside() {
        check.about("Promise 19: OUTSIDE (as -102)");
        TreePairs x = new TreePairs();
        x.strong(0, 0);
        x.go(0, 3, 5);
        int[] beyond = {-1, 2, 3, Integer.MIN_VALUE, Integer.MAX_VALUE};
        for (int what : beyond) {
            check.stays("seen(" + what + ")", x, () -> x.seen(what), -102);
        }
        seenIs(x, "0 and 1", 3, 3);
    }

    private static void seenLowestTerms() {
        check.about("Promise 19: in lowest terms");
        TreePairs x = new TreePairs();
        nothing(x, 0);
        for (int d = 1; d <= 30; d++) {
            for (int e = 0; e < d; e++) {
                x.go(0, d, 1L << e);
                seenIs(x, "2^" + e + " by 2^" + d, d - e, 1);
            }
            x.go(0, d, 0);
            seenIs(x, "0 by 2^" + d, 0, 0);
        }
    }

    private static void bendUnknown() {
        check.about("Promise 20: -1000: UNKNOWN: a, i");
        TreePairs x = new TreePairs();
        x.strong(0, 0);
        x.strong(11, 0);
        check.stays("bend(11, 2)", x, () -> x.bend(11, 2), 1);
        for (int n : Cuts.NOBODY) {
            check.stays("bend(" + n + ", 0)", x, () -> x.bend(n, 0), NO_BEND);
        }
        int[] beyond = {-1, 3, 24, Integer.MIN_VALUE, Integer.MAX_VALUE};
        for (int i : beyond) {
            check.stays("bend(0, " + i + ")", x, () -> x.bend(0, i), NO_BEND);
        }
    }

    private static void bendFirst() {
        check.about("Promise 20: less the same of the pair ahead, if there is one");
        TreePairs x = new TreePairs();
        nothing(x, 0);
        check.due("NOTHING", x.bend(0, 0), 0);
        check.stays("NOTHING's second pair", x, () -> x.bend(0, 1), NO_BEND);
        x.strong(0, 0);
        check.due("X(0): none ahead", x.bend(0, 0), -1);
        check.due("X(0): the one ahead has -1", x.bend(0, 1), 1);
        check.due("X(0): the one ahead has 0", x.bend(0, 2), 1);
        Check.put(x, 1, 0, 2, 1, 2, 2, 1, 1, 2, 3, 2, 0);
        x.make(0);
        check.due("ANYHOW: first", x.bend(0, 0), -1);
        check.due("ANYHOW: second", x.bend(0, 1), 2);
        check.due("ANYHOW: third", x.bend(0, 2), -1);
    }

    private static void bendMost() {
        check.about("Promise 20: of 24 pairs");
        TreePairs x = new TreePairs();
        Cuts.make(x, 0, Cuts.right(24), Cuts.left(24));
        x.turn(1, 0);
        for (int i = 0; i < 24; i++) {
            int due = i == 0 ? -22 : i == 1 || i == 23 ? 1 : 2;
            check.due("bend(0, " + i + ")", x.bend(0, i), due);
            check.due("bend(1, " + i + ")", x.bend(1, i), -due);
        }
        check.stays("bend(0, 24)", x, () -> x.bend(0, 24), NO_BEND);
    }

    private static void stillUnknown() {
        check.about("Promise 21: UNKNOWN");
        TreePairs x = new TreePairs();
        x.strong(0, 1);
        x.strong(11, 6);
        check.stays("still(0)", x, () -> x.still(0), 1);
        check.stays("still(11)", x, () -> x.still(11), 6);
        for (int n : Cuts.NOBODY) {
            check.stays("still(" + n + ")", x, () -> x.still(n), UNKNOWN);
        }
    }

    private static void stillCounts() {
        check.about("Promise 21: how many LEAVES go onto themselves");
        TreePairs x = new TreePairs();
        nothing(x, 0);
        check.due("NOTHING: the one", x.still(0), 1);
        int[][] comb = Cuts.right(24);
        Cuts.make(x, 0, comb, Cuts.round(comb, 1));
        check.due("none of 24", x.still(0), 0);
        for (int i = 0; i < 23; i++) {
            Cuts.make(x, 0, comb, Cuts.exchanged(comb, i, 23));
            check.due("all of 24 but " + i + " and the last", x.still(0), 22);
            Cuts.make(x, 0, comb, Cuts.exchanged(comb, i, i + 1));
            check.due("the rest behind " + i + " and the next is one", x.still(0), Math.min(i + 1, 22));
        }
        Cuts.make(x, 0, Cuts.even(1), Cuts.round(Cuts.even(1), 1));
        check.due("as deep, but another place", x.still(0), 0);
        Check.put(x, 1, 0, 2, 0, 2, 2, 1, 1, 2, 3, 2, 1);
        x.make(0);
        check.due("the same place, but not as deep", x.still(0), 0);
    }

    private static void singleUnknown() {
        check.about("Promise 22: UNKNOWN");
        TreePairs x = new TreePairs();
        x.strong(0, 1);
        nothing(x, 11);
        check.stays("single(0)", x, () -> x.single(0), 1);
        check.stays("single(11)", x, () -> x.single(11), 0);
        for (int n : Cuts.NOBODY) {
            check.stays("single(" + n + ")", x, () -> x.single(n), UNKNOWN);
        }
    }

    private static void points(TreePairs x, String name, long... due) {
        check.due(name + ": none at hand", x.count(1), 0);
        check.due(name + ": single", x.single(0), due.length / 2);
        for (int k = 0; k < due.length / 2; k++) {
            check.due(name + ": above of " + k, x.point(0, k, 0), due[2 * k]);
            check.due(name + ": below of " + k, x.point(0, k, 1), due[2 * k + 1]);
        }
        int beyond = due.length / 2;
        check.stays(name + ": none at " + beyond + ", above", x, () -> (int) x.point(0, beyond, 0), -1);
        check.stays(name + ": none at " + beyond + ", below", x, () -> (int) x.point(0, beyond, 1), -1);
    }

    private static void singleEnds() {
        check.about("Promise 22: a LEAF has its left end, its right end not");
        TreePairs x = new TreePairs();
        Check.put(x, 1, 0, 2, 1, 2, 2, 2, 0, 2, 3, 1, 1);
        x.make(0);
        points(x, "less, and larger, both at their right ends");
        Check.put(x, 1, 0, 2, 0, 2, 2, 1, 1, 2, 3, 2, 1);
        x.make(0);
        points(x, "less, and larger, both at their left ends", 0, 1, 1, 2);
        x.turn(0, 0);
        points(x, "turned: the same points", 0, 1, 1, 2);
        Check.put(x, 1, 1, 2, 2, 2, 0, 2, 3, 2, 1, 1, 0);
        x.make(0);
        points(x, "the right half at its left end, a quarter at its right end", 1, 2);
        Check.put(x, 1, 0, 3, 1, 2, 2, 3, 0, 3, 6, 2, 1, 3, 7, 1, 1);
        x.make(0);
        points(x, "within", 1, 6);
        x.turn(0, 0);
        points(x, "turned: within", 1, 6);
        Check.put(x, 1, 0, 2, 2, 2, 2, 2, 3, 2, 3, 1, 0);
        x.make(0);
        points(x, "neither in the other");
        // (2, 2) onto (3, 3) would let 1 by 4 stay
        Check.put(x, 1, 0, 1, 1, 2, 2, 3, 3, 3, 6, 2, 0, 3, 7, 3, 2);
        x.make(0);
        points(x, "a point on the left of its leaf");
        // (2, 1) onto (3, 4) would let 3 by 4 stay
        Check.put(x, 1, 1, 1, 0, 2, 1, 3, 4, 3, 0, 3, 5, 3, 1, 2, 3);
        x.make(0);
        points(x, "a point on the right of its leaf");
    }

    /** Eight times X(0), each in an eighth of the line: 24 leaves, a point at each start. */
    private static void singleMost() {
        check.about("Promise 22: there is one at most in each, in order");
        TreePairs x = new TreePairs();
        int[][] from = new int[0][];
        int[][] onto = new int[0][];
        for (int c = 0; c < 8; c++) {
            from = Cuts.join(from, Cuts.in(3, c, Cuts.right(3)));
            onto = Cuts.join(onto, Cuts.in(3, c, Cuts.left(3)));
        }
        check.due("made", Cuts.make(x, 0, Cuts.round(from, 7), Cuts.round(onto, 7)), 24);
        points(x, "eight", 0, 1, 1, 8, 1, 4, 3, 8, 1, 2, 5, 8, 3, 4, 7, 8);
        x.turn(0, 0);
        points(x, "eight, turned", 0, 1, 1, 8, 1, 4, 3, 8, 1, 2, 5, 8, 3, 4, 7, 8);
    }

    private static void pointUnknown() {
        check.about("Promise 23: UNKNOWN (as -101)");
        TreePairs x = new TreePairs();
        x.strong(0, 1);
        x.strong(11, 2);
        check.stays("point(0, 0, 0)", x, () -> x.point(0, 0, 0), 1);
        check.stays("point(11, 0, 1)", x, () -> x.point(11, 0, 1), 4);
        for (int n : Cuts.NOBODY) {
            check.stays("point(" + n + ", 0, 0)", x, () -> x.point(n, 0, 0), -101);
            check.stays("point(" + n + ", 0, 1)", x, () -> x.point(n, 0, 1), -101);
        }
    }

    private static void pointOutside() {
        check.about("Promise 23: OUTSIDE (-102): part is 0 or 1");
        TreePairs x = new TreePairs();
        x.strong(0, 1);
        int[] beyond = {-1, 2, 3, Integer.MIN_VALUE, Integer.MAX_VALUE};
        for (int part : beyond) {
            check.stays("part " + part, x, () -> x.point(0, 0, part), -102);
            check.stays("part " + part + " where there is none", x, () -> x.point(0, 1, part), -102);
        }
    }

    private static void pointUnknownAheadOfOutside() {
        check.about("Promise 23: UNKNOWN ahead of OUTSIDE");
        TreePairs x = new TreePairs();
        x.strong(0, 1);
        for (int n : Cuts.NOBODY) {
            check.stays("point(" + n + ", 0, 2)", x, () -> x.point(n, 0, 2), UNKNOWN);
            check.stays("point(" + n + ", 9, -1)", x, () -> x.point(n, 9, -1), UNKNOWN);
        }
    }

    private static void pointNone() {
        check.about("Promise 23: -1: there is none");
        TreePairs x = new TreePairs();
        x.strong(0, 1);
        int[] beyond = {1, 2, 24, -1, Integer.MIN_VALUE, Integer.MAX_VALUE};
        for (int k : beyond) {
            check.stays("above of " + k, x, () -> x.point(0, k, 0), -1);
            check.stays("below of " + k, x, () -> x.point(0, k, 1), -1);
        }
        nothing(x, 1);
        check.stays("NOTHING: above", x, () -> x.point(1, 0, 0), -1);
        check.stays("NOTHING: below", x, () -> x.point(1, 0, 1), -1);
    }

    private static void pointLowestTerms() {
        check.about("Promise 23: in lowest terms");
        TreePairs x = new TreePairs();
        x.strong(0, 0);
        points(x, "0 by 1", 0, 1);
        for (int i = 1; i <= 6; i++) {
            x.strong(0, i);
            points(x, "X(" + i + ")", (1 << i) - 1, 1 << i);
        }
        // (1, 0) onto (5, 10): 10 by 30; (3, 4) onto (1, 1): 3 by 6
        Check.put(x, 1, 0, 5, 10, 3, 4, 1, 1, 3, 5, 2, 0, 4, 12, 5, 9, 4, 13, 5, 8, 4, 14, 5, 11, 4, 15, 3, 3);
        x.make(0);
        points(x, "10 by 30, 3 by 6", 1, 3, 1, 2);
    }

    /** The first two second leaves of a comb are exchanged, and the last two: two points close to the ends. */
    private static void pointDeepest() {
        check.about("Promise 23: of the deepest LEAVES");
        TreePairs x = new TreePairs();
        int[][] onto = Cuts.exchanged(Cuts.exchanged(Cuts.left(24), 0, 1), 22, 23);
        check.due("made", Cuts.make(x, 0, Cuts.right(24), onto), 24);
        points(x, "near 0 and 1", 1, 8388606, 8388605, 8388606);
        x.turn(0, 0);
        points(x, "near 0 and 1, turned", 1, 8388606, 8388605, 8388606);
    }

    private static void askingChangesNothing() {
        check.about("Promises 19 to 23: asking changes nothing");
        TreePairs x = new TreePairs();
        x.strong(0, 2);
        x.pair(23, 8388607, 0, 0);
        x.go(0, 30, 1073741823);
        check.stays("seen(0)", x, () -> x.seen(0), 29);
        check.stays("seen(1)", x, () -> x.seen(1), 536870911);
        check.stays("bend", x, () -> x.bend(0, 4), 1);
        check.stays("still", x, () -> x.still(0), 2);
        check.stays("single", x, () -> x.single(0), 1);
        check.stays("point", x, () -> x.point(0, 0, 0), 3);
    }
}
