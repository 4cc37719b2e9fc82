/** Promises 10 to 17: leaves, sort, leaf, same, commute, order, length, ball. */
final class NatureTest {
    private static final Check check = new Check();
    private static final int UNKNOWN = TreePairs.UNKNOWN, OUTSIDE = TreePairs.OUTSIDE, FULL = TreePairs.FULL;
    private static final int[] NOBODY = {-1, 5, 12, Integer.MIN_VALUE, Integer.MAX_VALUE};

    public static void main(String[] args) {
        unknownOnes();
        leavesTold();
        sorts();
        leafs();
        sames();
        commutes();
        orders();
        lengths();
        balls();
        check.end();
    }

    private static void unknownOnes() {
        TreePairs x = new TreePairs();
        x.strong(0, 0);
        long before = x.digest();
        for (int a : NOBODY) {
            check.due("leaves(" + a + ")", x.leaves(a), UNKNOWN);
            check.due("sort(" + a + ")", x.sort(a), UNKNOWN);
            check.due("leaf(" + a + ", 0, 9)", x.leaf(a, 0, 9), UNKNOWN);
            check.due("same(" + a + ", 0)", x.same(a, 0), UNKNOWN);
            check.due("same(0, " + a + ")", x.same(0, a), UNKNOWN);
            check.due("commute(" + a + ", 0)", x.commute(a, 0), UNKNOWN);
            check.due("commute(0, " + a + ")", x.commute(0, a), UNKNOWN);
            check.due("order(" + a + ")", x.order(a), UNKNOWN);
            check.due("length(" + a + ")", x.length(a), UNKNOWN);
        }
        check.due("asking changes nothing", x.digest(), before);
    }

    private static void leavesTold() {
        TreePairs x = new TreePairs();
        x.strong(4, 2);
        check.due("leaves(4)", x.leaves(4), 5);
        x.power(4, 4, 0);
        check.due("leaves(4) of NOTHING", x.leaves(4), 1);
    }

    private static void sorts() {
        TreePairs x = new TreePairs();
        x.strong(0, 3);
        check.due("sort: strong", x.sort(0), 0);
        Check.put(x, 0, 0, 0, 0);
        x.make(0);
        check.due("sort: NOTHING", x.sort(0), 0);
        sortOf(x, 1, 1, 0, 1, 1, 1, 1, 1, 0);
        sortOf(x, 1, 2, 0, 2, 3, 2, 1, 1, 0, 1, 1, 2, 2);
        sortOf(x, 1, 1, 0, 2, 3, 2, 2, 1, 0, 2, 3, 2, 2);
        sortOf(x, 1, 1, 0, 2, 2, 2, 2, 2, 3, 2, 3, 1, 0);
        sortOf(x, 2, 1, 0, 2, 1, 2, 2, 2, 0, 2, 3, 1, 1);
        sortOf(x, 2, 1, 0, 1, 1, 2, 2, 2, 1, 2, 3, 2, 0);
        sortOf(x, 2, 1, 0, 1, 0, 2, 2, 2, 3, 2, 3, 2, 2);
        sortOf(x, 2, 2, 0, 2, 2, 2, 1, 2, 1, 2, 2, 2, 0, 2, 3, 2, 3);
        sortOf(x, 2, 2, 0, 2, 0, 2, 1, 2, 2, 2, 2, 2, 1, 2, 3, 2, 3);
    }

    private static void sortOf(TreePairs x, int want, int... told) {
        Check.put(x, told);
        String name = "sort: " + told.length / 4 + " pairs, the first onto " + told[2] + ", " + told[3];
        check.due(name + ": made", x.make(1), told.length / 4);
        check.due(name, x.sort(1), want);
    }

    private static void leafs() {
        TreePairs x = new TreePairs();
        x.strong(0, 0);
        check.map("leaf: X(0)", x, 0, 1, 0, 2, 0, 2, 2, 2, 1, 2, 3, 1, 1);
        check.due("leaf: i is 3", x.leaf(0, 3, 0), UNKNOWN);
        check.due("leaf: i is -1", x.leaf(0, -1, 0), UNKNOWN);
        check.due("leaf: i is MAX", x.leaf(0, Integer.MAX_VALUE, 0), UNKNOWN);
        check.due("leaf: UNKNOWN first", x.leaf(0, 3, 4), UNKNOWN);
        check.due("leaf: what is 4", x.leaf(0, 2, 4), OUTSIDE);
        check.due("leaf: what is -1", x.leaf(0, 0, -1), OUTSIDE);
    }

    private static void sames() {
        TreePairs x = new TreePairs();
        x.strong(0, 0);
        x.strong(1, 1);
        x.strong(2, 0);
        check.due("same: itself", x.same(0, 0), 1);
        check.due("same: twice made", x.same(0, 2), 1);
        check.due("same: others", x.same(0, 1), 0);
        x.turn(2, 0);
        check.due("same: as many leaves", x.same(0, 2), 0);
        Check.put(x, 1, 0, 2, 0, 2, 2, 1, 1, 2, 3, 2, 1);
        x.make(2);
        check.due("same: the same first cut", x.same(0, 2), 0);
        Check.put(x, 2, 0, 2, 0, 2, 1, 2, 1, 2, 2, 2, 3, 2, 3, 2, 2);
        x.make(3);
        Check.put(x, 2, 0, 2, 1, 2, 1, 2, 0, 1, 1, 1, 1);
        x.make(4);
        check.due("same: the same lengths", x.same(3, 4), 0);
    }

    private static void commutes() {
        TreePairs x = new TreePairs();
        x.strong(0, 0);
        x.strong(1, 1);
        x.power(2, 0, 5);
        long before = x.digest();
        check.due("commute: powers", x.commute(0, 2), 1);
        check.due("commute: X(0), X(1)", x.commute(0, 1), 0);
        check.due("commute: itself", x.commute(1, 1), 1);
        check.due("commute: changes nothing", x.digest(), before);
        Check.put(x, 2, 0, 3, 0, 3, 2, 3, 1, 3, 3, 2, 1, 1, 1, 1, 1);
        x.make(3);
        check.due("commute: apart", x.commute(1, 3), 1);
        x.power(4, 0, 12);
        check.due("commute: both FULL", x.commute(4, 4), FULL);
        x.power(4, 0, 11);
        check.due("commute: 24 are not too many", x.commute(4, 4), 1);
        oneFull();
    }

    /** The second cut of a is the first one of b; the second one of b has little in common with the first of a. */
    private static void oneFull() {
        TreePairs x = new TreePairs();
        int n = 20;
        for (int i = 0; i < n; i++) {
            x.pair(depth(n - 1 - i, n), i == 0 ? 0 : 1, depth(i, n), place(i, n));
        }
        check.due("commute: a", x.make(0), n);
        for (int i = 0; i < n; i++) {
            x.pair(depth(i, n), place(i, n), depth(n - 1 - i, n), place(n - 1 - i, n));
        }
        check.due("commute: b", x.make(1), n);
        check.due("commute: a THEN b", x.then(2, 0, 1), n);
        check.due("commute: b THEN a", x.then(2, 1, 0), FULL);
        check.due("commute: the second FULL", x.commute(0, 1), FULL);
        check.due("commute: the first FULL", x.commute(1, 0), FULL);
    }

    private static void orders() {
        TreePairs x = new TreePairs();
        x.strong(0, 0);
        check.due("order: X(0)", x.order(0), 0);
        x.power(1, 0, 0);
        check.due("order: NOTHING", x.order(1), 1);
        for (int n = 2; n <= 24; n++) {
            turning(x, n);
            check.due("order: one behind the other, " + n, x.order(1), n);
            x.turn(2, 1);
            check.due("order: turned " + n, x.order(2), n);
        }
        wheels(x, 5, 7, 35);
        wheels(x, 3, 13, 39);
        wheels(x, 5, 8, 40);
        wheels(x, 6, 7, 0);
        wheels(x, 3, 14, 0);
    }

    /** Map 1: each leaf of one cut goes onto the next one. */
    private static void turning(TreePairs x, int n) {
        for (int i = 0; i < n; i++) {
            int j = (i + 1) % n;
            x.pair(depth(i, n), place(i, n), depth(j, n), place(j, n));
        }
        x.make(1);
    }

    /** Map 1: the first p leaves of one cut go round, and the next q. */
    private static void wheels(TreePairs x, int p, int q, int want) {
        int n = p + q;
        for (int i = 0; i < n; i++) {
            int j = i < p ? (i + 1) % p : p + (i - p + 1) % q;
            x.pair(depth(i, n), place(i, n), depth(j, n), place(j, n));
        }
        x.make(1);
        check.due("order: wheels of " + p + " and " + q, x.order(1), want);
    }

    private static int depth(int i, int n) {
        return Math.min(i + 1, n - 1);
    }

    private static int place(int i, int n) {
        return i == n - 1 ? (1 << (n - 1)) - 1 : (1 << (i + 1)) - 2;
    }

    private static void lengths() {
        TreePairs x = new TreePairs();
        x.strong(0, 0);
        x.strong(1, 1);
        x.turn(2, 0);
        x.turn(3, 1);
        for (int a = 0; a < 4; a++) {
            check.due("length: one, " + a, x.length(a), 1);
        }
        x.power(4, 0, 0);
        check.due("length: NOTHING", x.length(4), 0);
        for (int k = 1; k <= 6; k++) {
            x.power(4, 0, k);
            check.due("length: X(0) by " + k, x.length(4), k <= 4 ? k : TreePairs.NONE);
            x.power(4, 1, -k);
            check.due("length: X(1) by -" + k, x.length(4), k <= 4 ? k : TreePairs.NONE);
        }
        for (int i = 2; i <= 6; i++) {
            x.strong(4, i);
            check.due("length: X(" + i + ")", x.length(4), i == 2 ? 3 : TreePairs.NONE);
        }
        Check.put(x, 1, 0, 1, 1, 1, 1, 1, 0);
        x.make(4);
        check.due("length: round", x.length(4), TreePairs.NONE);
        words(x);
    }

    /** X(2) is made of three; the way there is told one by one. */
    private static void words(TreePairs x) {
        x.then(5, 0, 1);
        check.due("length: two", x.length(5), 2);
        x.then(5, 5, 2);
        check.due("length: three", x.length(5), 3);
        x.strong(6, 2);
        check.due("length: three are X(2)", x.same(5, 6), 1);
        x.then(7, 5, 3);
        check.due("length: four", x.length(7), 4);
        x.then(7, 7, 2);
        check.due("length: five", x.length(7), TreePairs.NONE);
    }

    private static void balls() {
        TreePairs x = new TreePairs();
        long before = x.digest();
        int[] due = {1, 4, 12, 36, 108};
        for (int k = 4; k >= 0; k--) {
            check.due("ball(" + k + ")", x.ball(k), due[k]);
        }
        check.due("ball(5)", x.ball(5), OUTSIDE);
        check.due("ball(-1)", x.ball(-1), OUTSIDE);
        check.due("ball(MAX)", x.ball(Integer.MAX_VALUE), OUTSIDE);
        check.due("ball: changes nothing", x.digest(), before);
    }
}
