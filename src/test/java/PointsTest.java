/** Promises 18 to 23: go, seen, bend, still, single, point. */
final class PointsTest {
    private static final Check check = new Check();
    private static final int UNKNOWN = TreePairs.UNKNOWN, OUTSIDE = TreePairs.OUTSIDE;
    private static final int[] NOBODY = {-1, 5, 12, Integer.MIN_VALUE, Integer.MAX_VALUE};

    public static void main(String[] args) {
        goes();
        farGoes();
        refusedGoes();
        seenOnes();
        bends();
        stills();
        singles();
        points();
        refusedPoints();
        check.end();
    }

    private static void goesTo(TreePairs x, int a, int d, long c, int wantD, long wantC) {
        String call = "go(" + a + ", " + d + ", " + c + ")";
        check.due(call, x.go(a, d, c), 1);
        check.due(call + ": seen(0)", x.seen(0), wantD);
        check.due(call + ": seen(1)", x.seen(1), wantC);
    }

    private static void goes() {
        TreePairs x = new TreePairs();
        x.strong(0, 0);
        goesTo(x, 0, 1, 1, 2, 1);
        goesTo(x, 0, 2, 1, 3, 1);
        goesTo(x, 0, 2, 3, 1, 1);
        goesTo(x, 0, 3, 5, 3, 3);
        goesTo(x, 0, 3, 7, 2, 3);
        goesTo(x, 0, 4, 14, 2, 3);
        goesTo(x, 0, 0, 0, 0, 0);
        goesTo(x, 0, 30, 0, 0, 0);
        goesTo(x, 0, 30, 1, 31, 1);
        goesTo(x, 0, 30, 536870911, 31, 536870911);
        goesTo(x, 0, 30, 536870912, 2, 1);
        goesTo(x, 0, 30, 805306367, 30, 536870911);
        goesTo(x, 0, 30, 1073741823, 29, 536870911);
        Check.put(x, 1, 0, 1, 1, 1, 1, 1, 0);
        x.make(1);
        goesTo(x, 1, 0, 0, 1, 1);
        goesTo(x, 1, 1, 1, 0, 0);
        goesTo(x, 1, 2, 3, 2, 1);
    }

    private static void farGoes() {
        TreePairs x = new TreePairs();
        combs(x);
        goesTo(x, 0, 30, 1, 52, 1);
        goesTo(x, 0, 30, 536870911, 52, 536870911);
        goesTo(x, 0, 30, 1073741823, 8, 255);
        goesTo(x, 0, 23, 8388607, 1, 1);
        goesTo(x, 0, 23, 8388606, 2, 1);
    }

    /** Map 0: from (1, 0), (2, 2), .. in order onto .., (2, 1), (1, 1). */
    private static void combs(TreePairs x) {
        x.pair(1, 0, 23, 0);
        for (int i = 1; i < 23; i++) {
            x.pair(i + 1, (2 << i) - 2, 24 - i, 1);
        }
        x.pair(23, 8388607, 1, 1);
        check.due("go: combs", x.make(0), 24);
    }

    private static void refusedGoes() {
        TreePairs x = new TreePairs();
        x.strong(0, 0);
        x.go(0, 3, 5);
        long before = x.digest();
        for (int a : NOBODY) {
            check.due("go(" + a + ", 31, -1)", x.go(a, 31, -1), UNKNOWN);
        }
        int[] depths = {-1, 31, 32, 63, 64, Integer.MIN_VALUE, Integer.MAX_VALUE};
        for (int d : depths) {
            check.due("go(0, " + d + ", 0)", x.go(0, d, 0), OUTSIDE);
        }
        check.due("go: 1 by 1", x.go(0, 0, 1), OUTSIDE);
        check.due("go: 8 by 8", x.go(0, 3, 8), OUTSIDE);
        check.due("go: below 0", x.go(0, 3, -1), OUTSIDE);
        check.due("go: 2^30 by 2^30", x.go(0, 30, 1073741824), OUTSIDE);
        check.due("go: 2^32 and 1", x.go(0, 1, 4294967297L), OUTSIDE);
        check.due("go: MIN", x.go(0, 30, Long.MIN_VALUE), OUTSIDE);
        check.due("go: MAX", x.go(0, 30, Long.MAX_VALUE), OUTSIDE);
        check.due("go: refused ones change nothing", x.digest(), before);
    }

    private static void seenOnes() {
        TreePairs x = new TreePairs();
        check.due("seen(0) at first", x.seen(0), 0);
        check.due("seen(1) at first", x.seen(1), 0);
        check.due("seen(2)", x.seen(2), OUTSIDE);
        check.due("seen(-1)", x.seen(-1), OUTSIDE);
        check.due("seen(MIN)", x.seen(Integer.MIN_VALUE), OUTSIDE);
        x.strong(0, 0);
        x.go(0, 3, 5);
        x.drop(0);
        check.due("seen(0) stays", x.seen(0), 3);
        check.due("seen(1) stays", x.seen(1), 3);
    }

    private static void bends() {
        TreePairs x = new TreePairs();
        x.strong(0, 0);
        int[] due = {-1, 1, 1};
        for (int i = 0; i < 3; i++) {
            check.due("bend(0, " + i + ")", x.bend(0, i), due[i]);
        }
        x.turn(1, 0);
        int[] dueTurned = {1, -1, -1};
        for (int i = 0; i < 3; i++) {
            check.due("bend(1, " + i + ")", x.bend(1, i), dueTurned[i]);
        }
        x.power(2, 0, 3);
        int[] dueThird = {-3, 1, 2, 2, 1};
        for (int i = 0; i < 5; i++) {
            check.due("bend(2, " + i + ")", x.bend(2, i), dueThird[i]);
        }
        check.due("bend: i is 3", x.bend(0, 3), -1000);
        check.due("bend: i is -1", x.bend(0, -1), -1000);
        check.due("bend: i is MIN", x.bend(0, Integer.MIN_VALUE), -1000);
        for (int a : NOBODY) {
            check.due("bend(" + a + ", 0)", x.bend(a, 0), -1000);
        }
    }

    private static void stills() {
        TreePairs x = new TreePairs();
        for (int i = 0; i <= 6; i++) {
            x.strong(0, i);
            check.due("still: X(" + i + ")", x.still(0), i);
        }
        x.power(0, 0, 0);
        check.due("still: NOTHING", x.still(0), 1);
        Check.put(x, 2, 0, 2, 1, 2, 1, 2, 0, 1, 1, 1, 1);
        x.make(0);
        check.due("still: one of three", x.still(0), 1);
        Check.put(x, 1, 0, 1, 1, 1, 1, 1, 0);
        x.make(0);
        check.due("still: none", x.still(0), 0);
        Check.put(x, 1, 0, 2, 0, 2, 2, 1, 1, 2, 3, 2, 1);
        x.make(0);
        check.due("still: the same c is not enough", x.still(0), 0);
        for (int a : NOBODY) {
            check.due("still(" + a + ")", x.still(a), UNKNOWN);
        }
    }

    private static void singles() {
        TreePairs x = new TreePairs();
        for (int i = 0; i <= 6; i++) {
            x.strong(0, i);
            check.due("single: X(" + i + ")", x.single(0), 1);
            x.turn(0, 0);
            check.due("single: X(" + i + ") turned", x.single(0), 1);
        }
        x.power(0, 0, 0);
        check.due("single: NOTHING", x.single(0), 0);
        Check.put(x, 1, 0, 1, 1, 1, 1, 1, 0);
        x.make(0);
        check.due("single: halves changed", x.single(0), 0);
        for (int a : NOBODY) {
            check.due("single(" + a + ")", x.single(a), UNKNOWN);
        }
    }

    private static void pointIs(TreePairs x, int k, long above, long below) {
        check.due("point(0, " + k + ", 0)", x.point(0, k, 0), above);
        check.due("point(0, " + k + ", 1)", x.point(0, k, 1), below);
    }

    private static void points() {
        TreePairs x = new TreePairs();
        x.strong(0, 0);
        pointIs(x, 0, 0, 1);
        pointIs(x, 1, -1, -1);
        x.strong(0, 2);
        pointIs(x, 0, 3, 4);
        // (1, 0) onto (2, 1): its right end; (2, 2) onto (2, 0): none; (2, 3) onto (1, 1): its right end
        Check.put(x, 1, 0, 2, 1, 2, 2, 2, 0, 2, 3, 1, 1);
        x.make(0);
        check.due("point: right ends", x.single(0), 0);
        pointIs(x, 0, -1, -1);
        // (1, 0) onto (3, 1): 1/6
        Check.put(x, 1, 0, 3, 1, 2, 2, 3, 0, 3, 6, 2, 1, 3, 7, 1, 1);
        x.make(0);
        check.due("point: one sixth", x.single(0), 1);
        pointIs(x, 0, 1, 6);
        x.turn(0, 0);
        check.due("point: one sixth turned", x.single(0), 1);
        pointIs(x, 0, 1, 6);
        // (2, 0) onto (1, 0): 0; (2, 1) onto (2, 3); (1, 1) onto (2, 2): 1/2
        Check.put(x, 2, 0, 1, 0, 2, 1, 2, 3, 1, 1, 2, 2);
        x.make(0);
        check.due("point: two", x.single(0), 2);
        pointIs(x, 0, 0, 1);
        pointIs(x, 1, 1, 2);
        pointIs(x, 2, -1, -1);
        lowestTerms(x);
    }

    /** (1, 0) onto (5, 10): 10 by 30; (3, 4) onto (1, 1): 3 by 6, where the stretch starts. */
    private static void lowestTerms(TreePairs x) {
        Check.put(x, 1, 0, 5, 10, 3, 4, 1, 1, 3, 5, 2, 0, 4, 12, 5, 9, 4, 13, 5, 8, 4, 14, 5, 11, 4, 15, 3, 3);
        check.due("point: seven", x.make(0), 7);
        check.due("point: in lowest terms", x.single(0), 2);
        pointIs(x, 0, 1, 3);
        pointIs(x, 1, 1, 2);
        pointIs(x, -1, -1, -1);
        pointIs(x, Integer.MAX_VALUE, -1, -1);
    }

    private static void refusedPoints() {
        TreePairs x = new TreePairs();
        x.strong(0, 0);
        for (int a : NOBODY) {
            check.due("point(" + a + ", 0, 2)", x.point(a, 0, 2), UNKNOWN);
        }
        check.due("point: part 2", x.point(0, 0, 2), OUTSIDE);
        check.due("point: part -1", x.point(0, 0, -1), OUTSIDE);
        check.due("point: OUTSIDE where there is none", x.point(0, 9, 2), OUTSIDE);
    }
}
