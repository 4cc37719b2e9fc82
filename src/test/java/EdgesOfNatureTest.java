/** The edges of promises 10 to 17: leaves, sort, leaf, same, commute, order, length, ball. */
final class EdgesOfNatureTest {
    private static final Check check = new Check();
    private static final int UNKNOWN = TreePairs.UNKNOWN, OUTSIDE = TreePairs.OUTSIDE, FULL = TreePairs.FULL;
    private static final int NONE = TreePairs.NONE;

    public static void main(String[] args) {
        leavesBounds();
        sortBounds();
        leafOfMap();
        leafOfPair();
        leafOutside();
        leafUnknownAheadOfOutside();
        leafMost();
        sameUnknown();
        sameAtTheEnds();
        commuteUnknown();
        commuteMost();
        commuteFullOneOfBoth();
        orderUnknown();
        orderLeastAndMost();
        orderTooLarge();
        lengthUnknown();
        lengthOfEach();
        lengthNone();
        ballBounds();
        ballTellsAll();
        askingChangesNothing();
        check.end();
    }

    private static void most(TreePairs x, int t) {
        Cuts.make(x, t, Cuts.right(24), Cuts.left(24));
    }

    private static void leavesBounds() {
        check.about("Promise 10: UNKNOWN; 1 to 24");
        TreePairs x = new TreePairs();
        most(x, 0);
        Cuts.make(x, 11, Cuts.right(1), Cuts.right(1));
        check.stays("24", x, () -> x.leaves(0), 24);
        check.stays("1", x, () -> x.leaves(11), 1);
        for (int n : Cuts.NOBODY) {
            check.stays("leaves(" + n + ")", x, () -> x.leaves(n), UNKNOWN);
        }
    }

    private static void sortBounds() {
        check.about("Promise 11: UNKNOWN");
        TreePairs x = new TreePairs();
        x.strong(0, 0);
        Cuts.make(x, 11, Cuts.even(1), Cuts.round(Cuts.even(1), 1));
        check.stays("sort(0)", x, () -> x.sort(0), 0);
        check.stays("sort(11)", x, () -> x.sort(11), 1);
        for (int n : Cuts.NOBODY) {
            check.stays("sort(" + n + ")", x, () -> x.sort(n), UNKNOWN);
        }
    }

    private static void leafOfMap() {
        check.about("Promise 12: UNKNOWN: a");
        TreePairs x = new TreePairs();
        x.strong(0, 0);
        x.strong(11, 1);
        check.stays("leaf(0, 0, 0)", x, () -> x.leaf(0, 0, 0), 1);
        check.stays("leaf(11, 3, 3)", x, () -> x.leaf(11, 3, 3), 3);
        for (int n : Cuts.NOBODY) {
            check.stays("leaf(" + n + ", 0, 0)", x, () -> x.leaf(n, 0, 0), UNKNOWN);
        }
    }

    private static void leafOfPair() {
        check.about("Promise 12: UNKNOWN: i");
        TreePairs x = new TreePairs();
        for (int n = 1; n <= 24; n++) {
            int end = n;
            Cuts.make(x, 0, Cuts.right(n), n == 1 ? Cuts.right(1) : Cuts.round(Cuts.right(n), 1));
            check.due("first of " + n, x.leaf(0, 0, 0), n == 1 ? 0 : 1);
            check.due("last of " + n, x.leaf(0, n - 1, 0), n - 1);
            check.stays("-1 of " + n, x, () -> x.leaf(0, -1, 0), UNKNOWN);
            check.stays(n + " of " + n, x, () -> x.leaf(0, end, 0), UNKNOWN);
        }
        check.stays("MIN", x, () -> x.leaf(0, Integer.MIN_VALUE, 0), UNKNOWN);
        check.stays("MAX", x, () -> x.leaf(0, Integer.MAX_VALUE, 0), UNKNOWN);
    }

    private static void leafOutside() {
        check.about("Promise 12: OUTSIDE: what is 0 to 3");
        TreePairs x = new TreePairs();
        x.strong(0, 0);
        int[] due = {2, 3, 1, 1};
        for (int what = 0; what < 4; what++) {
            check.due("what " + what, x.leaf(0, 2, what), due[what]);
        }
        int[] beyond = {-1, 4, Integer.MIN_VALUE, Integer.MAX_VALUE};
        for (int what : beyond) {
            check.stays("what " + what, x, () -> x.leaf(0, 2, what), OUTSIDE);
            check.stays("of NOTHING's pair 0 too: " + what, x, () -> x.leaf(0, 0, what), OUTSIDE);
        }
    }

    private static void leafUnknownAheadOfOutside() {
        check.about("Promise 12: UNKNOWN ahead of OUTSIDE");
        TreePairs x = new TreePairs();
        x.strong(0, 0);
        for (int n : Cuts.NOBODY) {
            check.stays("a " + n + ", what 4", x, () -> x.leaf(n, 0, 4), UNKNOWN);
        }
        check.stays("i 3, what 4", x, () -> x.leaf(0, 3, 4), UNKNOWN);
        check.stays("i 3, what -1", x, () -> x.leaf(0, 3, -1), UNKNOWN);
        check.stays("i -1, what 4", x, () -> x.leaf(0, -1, 4), UNKNOWN);
    }

    private static void leafMost() {
        check.about("Promise 12: the deepest LEAF");
        TreePairs x = new TreePairs();
        int[][] comb = Cuts.right(24);
        Cuts.make(x, 0, comb, Cuts.round(comb, 1));
        check.map("23 and 22 of 24", x, 0, told(comb));
        check.due("d of the last", x.leaf(0, 23, 0), 23);
        check.due("c of the last", x.leaf(0, 23, 1), 8388607);
        check.due("e of the last but one", x.leaf(0, 22, 2), 23);
        check.due("b of the last but one", x.leaf(0, 22, 3), 8388607);
    }

    /** Each leaf of a cut onto the next one, as d, c, e, b. */
    private static int[] told(int[][] cut) {
        int[] all = new int[4 * cut.length];
        for (int i = 0; i < cut.length; i++) {
            int[] next = cut[(i + 1) % cut.length];
            all[4 * i] = cut[i][0];
            all[4 * i + 1] = cut[i][1];
            all[4 * i + 2] = next[0];
            all[4 * i + 3] = next[1];
        }
        return all;
    }

    private static void sameUnknown() {
        check.about("Promise 13: UNKNOWN: a, b");
        TreePairs x = new TreePairs();
        x.strong(0, 0);
        x.strong(11, 0);
        check.stays("same(0, 11)", x, () -> x.same(0, 11), 1);
        check.stays("same(11, 11)", x, () -> x.same(11, 11), 1);
        for (int n : Cuts.NOBODY) {
            check.stays("same(" + n + ", 0)", x, () -> x.same(n, 0), UNKNOWN);
            check.stays("same(0, " + n + ")", x, () -> x.same(0, n), UNKNOWN);
            check.stays("same(" + n + ", " + n + ")", x, () -> x.same(n, n), UNKNOWN);
        }
    }

    private static void sameAtTheEnds() {
        check.about("Promise 13: whether two are the same");
        TreePairs x = new TreePairs();
        int[][] from = Cuts.right(24);
        int[][] onto = Cuts.round(Cuts.left(24), 1);
        Cuts.make(x, 0, from, onto);
        Cuts.make(x, 1, Cuts.round(from, 9), Cuts.round(onto, 9));
        check.due("told in another turn", x.same(0, 1), 1);
        Cuts.make(x, 1, from, Cuts.exchanged(onto, 0, 1));
        check.due("unlike in the first two", x.same(0, 1), 0);
        Cuts.make(x, 1, from, Cuts.exchanged(onto, 22, 23));
        check.due("unlike in the last two", x.same(0, 1), 0);
        Cuts.make(x, 1, from, Cuts.round(from, 1));
        check.due("unlike in the second leaves", x.same(0, 1), 0);
        Cuts.make(x, 1, Cuts.left(24), onto);
        check.due("unlike in the first leaves", x.same(0, 1), 0);
        Cuts.make(x, 0, Cuts.right(3), Cuts.right(3));
        Cuts.make(x, 1, Cuts.left(24), Cuts.left(24));
        check.due("NOTHING in 3 and in 24", x.same(0, 1), 1);
        x.strong(1, 0);
        check.due("1 and 3 leaves", x.same(0, 1), 0);
        check.due("3 and 1 leaves", x.same(1, 0), 0);
    }

    private static void commuteUnknown() {
        check.about("Promise 14: UNKNOWN, ahead of FULL");
        TreePairs x = new TreePairs();
        most(x, 0);
        x.strong(11, 0);
        check.stays("FULL without", x, () -> x.commute(0, 0), FULL);
        check.stays("commute(11, 11)", x, () -> x.commute(11, 11), 1);
        for (int n : Cuts.NOBODY) {
            check.stays("commute(" + n + ", 0)", x, () -> x.commute(n, 0), UNKNOWN);
            check.stays("commute(0, " + n + ")", x, () -> x.commute(0, n), UNKNOWN);
        }
    }

    private static void commuteMost() {
        check.about("Promise 14: FULL: more than 24 LEAVES");
        TreePairs x = new TreePairs();
        x.strong(0, 0);
        x.power(1, 0, 11);
        x.power(2, 0, 12);
        check.stays("both 24", x, () -> x.commute(1, 1), 1);
        check.stays("both 25", x, () -> x.commute(1, 2), FULL);
        check.stays("both 26", x, () -> x.commute(2, 2), FULL);
        x.turn(3, 2);
        check.stays("both NOTHING", x, () -> x.commute(2, 3), 1);
    }

    private static void commuteFullOneOfBoth() {
        check.about("Promise 14: FULL: one of both");
        for (int k = 1; k <= 4; k++) {
            TreePairs x = new TreePairs();
            int ba = apart(x, 14, k);
            check.due("a THEN b", x.then(2, 0, 1), 14);
            if (ba <= 24) {
                check.due("b THEN a is " + ba, x.then(2, 1, 0), ba);
                check.stays("the second is " + ba, x, () -> x.commute(0, 1), 0);
                check.stays("the first is " + ba, x, () -> x.commute(1, 0), 0);
            } else {
                check.stays("b THEN a is " + ba, x, () -> x.then(2, 1, 0), FULL);
                check.stays("the second alone is " + ba, x, () -> x.commute(0, 1), FULL);
                check.stays("the first alone is " + ba, x, () -> x.commute(1, 0), FULL);
            }
        }
    }

    /**
     * Makes a and b of n leaves. The second cut of a is the first one of b; the second one of b and the
     * first one of a cut unlike halves, but for k leaves: how many leaves b THEN a has.
     */
    private static int apart(TreePairs x, int n, int k) {
        int[][] first = Cuts.join(Cuts.in(1, 0, Cuts.left(n - k)), Cuts.in(1, 1, Cuts.right(k)));
        int[][] middle = Cuts.right(n);
        Cuts.make(x, 0, first, Cuts.round(middle, 1));
        Cuts.make(x, 1, middle, Cuts.round(middle, 1));
        return n - k + n - 1;
    }

    private static void orderUnknown() {
        check.about("Promise 15: UNKNOWN");
        TreePairs x = new TreePairs();
        x.pair(0, 0, 0, 0);
        x.make(11);
        check.stays("order(11)", x, () -> x.order(11), 1);
        for (int n : Cuts.NOBODY) {
            check.stays("order(" + n + ")", x, () -> x.order(n), UNKNOWN);
        }
    }

    private static void orderLeastAndMost() {
        check.about("Promise 15: ORDER; 0: there is none to 40");
        TreePairs x = new TreePairs();
        int[][] wheels = {{1, 0, 1}, {2, 0, 2}, {24, 0, 24}, {5, 7, 35}, {4, 9, 36}, {3, 13, 39}, {5, 8, 40},
            {8, 5, 40}, {6, 7, 0}, {4, 11, 0}, {5, 9, 0}, {11, 13, 0}};
        for (int[] wheel : wheels) {
            Cuts.wheels(x, 0, Cuts.left(wheel[0] + wheel[1]), wheel[0]);
            check.stays("wheels of " + wheel[0] + " and " + wheel[1], x, () -> x.order(0), wheel[2]);
        }
    }

    private static void orderTooLarge() {
        check.about("Promise 15: 0: a POWER on the way would be too large");
        TreePairs x = new TreePairs();
        x.strong(0, 0);
        check.stays("X(0)", x, () -> x.order(0), 0);
        most(x, 1);
        check.stays("24 leaves", x, () -> x.order(1), 0);
        Cuts.fourWheel(x, 2, 24);
        check.stays("24 on the way", x, () -> x.order(2), 4);
        Cuts.fourWheel(x, 3, 25);
        check.stays("25 on the way", x, () -> x.order(3), 0);
        x.turn(3, 3);
        check.stays("25 on the way, turned", x, () -> x.order(3), 0);
    }

    private static void lengthUnknown() {
        check.about("Promise 16: UNKNOWN");
        TreePairs x = new TreePairs();
        for (int n : Cuts.NOBODY) {
            check.stays("at first: length(" + n + ")", x, () -> x.length(n), UNKNOWN);
        }
        x.strong(11, 1);
        check.stays("length(11)", x, () -> x.length(11), 1);
        for (int n : Cuts.NOBODY) {
            check.stays("length(" + n + ")", x, () -> x.length(n), UNKNOWN);
        }
    }

    /** All words of 0 to 4 of the four: a word's map has the length of its shortest one. */
    private static void lengthOfEach() {
        check.about("Promise 16: LENGTH: of how few it is made");
        for (int word = 0; word < 256; word++) {
            TreePairs x = new TreePairs();
            x.strong(0, 0);
            x.turn(1, 0);
            x.strong(2, 1);
            x.turn(3, 2);
            x.power(4, 0, 0);
            int[] kept = new int[5];
            int many = 0;
            for (int n = 0; n < 4; n++) {
                int step = (word >> (2 * n)) & 3;
                x.then(4, 4, step);
                // one and its turned one, one behind the other, are nothing
                if (many > 0 && kept[many - 1] == (step ^ 1)) {
                    many--;
                } else {
                    kept[many] = step;
                    many++;
                }
                check.due("first " + (n + 1) + " of word " + word, x.length(4), many);
            }
        }
    }

    private static void lengthNone() {
        check.about("Promise 16: NONE: 4 don't suffice");
        TreePairs x = new TreePairs();
        x.strong(0, 2);
        check.stays("X(2)", x, () -> x.length(0), 3);
        for (int i = 3; i <= 6; i++) {
            x.strong(0, i);
            check.stays("X(" + i + ")", x, () -> x.length(0), NONE);
        }
        most(x, 0);
        check.stays("24 leaves", x, () -> x.length(0), NONE);
        Cuts.make(x, 0, Cuts.even(1), Cuts.round(Cuts.even(1), 1));
        check.stays("ROUND", x, () -> x.length(0), NONE);
        Cuts.make(x, 0, Cuts.right(3), Cuts.exchanged(Cuts.left(3), 0, 1));
        check.stays("ANYHOW", x, () -> x.length(0), NONE);
        x.strong(1, 0);
        x.strong(2, 1);
        x.power(0, 1, 4);
        check.stays("4", x, () -> x.length(0), 4);
        x.then(3, 0, 2);
        check.stays("5", x, () -> x.length(3), NONE);
        x.turn(2, 2);
        x.then(3, 3, 2);
        check.stays("back to 4", x, () -> x.length(3), 4);
    }

    private static void ballBounds() {
        check.about("Promise 17: k 0 to 4; OUTSIDE");
        TreePairs x = new TreePairs();
        int[] beyond = {-1, 5, Integer.MIN_VALUE, Integer.MAX_VALUE};
        for (int k : beyond) {
            check.stays("at first: ball(" + k + ")", x, () -> x.ball(k), OUTSIDE);
        }
        check.stays("ball(0)", x, () -> x.ball(0), 1);
        check.stays("ball(4)", x, () -> x.ball(4), 108);
        for (int k : beyond) {
            check.stays("ball(" + k + ")", x, () -> x.ball(k), OUTSIDE);
        }
    }

    private static void ballTellsAll() {
        check.about("Promise 17: how many MAPS, those that are there or not");
        int[] due = {1, 4, 12, 36, 108};
        for (int k = 0; k <= 4; k++) {
            int by = k;
            TreePairs x = new TreePairs();
            check.stays("none are there: " + k, x, () -> x.ball(by), due[k]);
            TreePairs y = new TreePairs();
            y.strong(0, 0);
            y.strong(1, 1);
            y.pair(0, 0, 0, 0);
            check.stays("some are there: " + k, y, () -> y.ball(by), due[k]);
            check.due("their length after it", y.length(0), 1);
        }
    }

    private static void askingChangesNothing() {
        check.about("Promises 10 to 17: asking changes nothing");
        TreePairs x = new TreePairs();
        x.strong(0, 0);
        most(x, 1);
        x.pair(23, 8388607, 0, 0);
        x.go(0, 3, 5);
        check.stays("sort", x, () -> x.sort(1), 0);
        check.stays("leaf", x, () -> x.leaf(1, 23, 1), 8388607);
        check.stays("same", x, () -> x.same(0, 1), 0);
        check.stays("commute", x, () -> x.commute(0, 1), FULL);
        check.stays("commute", x, () -> x.commute(0, 0), 1);
        check.stays("order", x, () -> x.order(1), 0);
        check.stays("length", x, () -> x.length(0), 1);
        check.stays("ball", x, () -> x.ball(4), 108);
    }
}
