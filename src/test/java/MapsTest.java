/** Promises 5 to 9: strong, then, turn, power, drop. */
final class MapsTest {
    private static final Check check = new Check();
    private static final int UNKNOWN = TreePairs.UNKNOWN, OUTSIDE = TreePairs.OUTSIDE, FULL = TreePairs.FULL;

    public static void main(String[] args) {
        strongOnes();
        thens();
        refusedThens();
        turns();
        powers();
        refusedPowers();
        fullOnTheWay();
        drops();
        check.end();
    }

    private static void strongOnes() {
        TreePairs x = new TreePairs();
        for (int i = 0; i <= 6; i++) {
            check.due("strong(" + i + ", " + i + ")", x.strong(i, i), i + 3);
        }
        check.map("X(0)", x, 0, 1, 0, 2, 0, 2, 2, 2, 1, 2, 3, 1, 1);
        check.map("X(1)", x, 1, 1, 0, 1, 0, 2, 2, 3, 4, 3, 6, 3, 5, 3, 7, 2, 3);
        check.map("X(3)", x, 3, 1, 0, 1, 0, 2, 2, 2, 2, 3, 6, 3, 6, 4, 14, 5, 28, 5, 30, 5, 29, 5, 31, 4, 15);
        check.map("X(6)", x, 6, 1, 0, 1, 0, 2, 2, 2, 2, 3, 6, 3, 6, 4, 14, 4, 14, 5, 30, 5, 30, 6, 62, 6, 62,
            7, 126, 8, 252, 8, 254, 8, 253, 8, 255, 7, 127);
        long before = x.digest();
        check.due("strong(12, 0)", x.strong(12, 0), UNKNOWN);
        check.due("strong(-1, 0)", x.strong(-1, 0), UNKNOWN);
        check.due("strong: UNKNOWN first", x.strong(-1, 7), UNKNOWN);
        check.due("strong(0, 7)", x.strong(0, 7), OUTSIDE);
        check.due("strong(0, -1)", x.strong(0, -1), OUTSIDE);
        check.due("strong(0, MAX)", x.strong(0, Integer.MAX_VALUE), OUTSIDE);
        check.due("strong: refused ones change nothing", x.digest(), before);
    }

    private static void thens() {
        TreePairs x = new TreePairs();
        x.strong(0, 0);
        x.strong(1, 1);
        check.due("then: X(0) THEN X(1)", x.then(2, 0, 1), 5);
        check.map("then: X(0) THEN X(1)", x, 2,
            1, 0, 2, 0, 2, 2, 2, 1, 3, 6, 3, 4, 4, 14, 3, 5, 4, 15, 2, 3);
        check.due("then: X(1) THEN X(0)", x.then(3, 1, 0), 4);
        check.map("then: X(1) THEN X(0)", x, 3, 1, 0, 2, 0, 2, 2, 3, 2, 3, 6, 3, 3, 3, 7, 1, 1);
        x.turn(4, 0);
        check.due("then: t is a", x.then(4, 4, 0), 1);
        x.strong(5, 0);
        check.due("then: t is b", x.then(5, 1, 5), 4);
        check.due("then: t is b, as elsewhere", x.same(5, 3), 1);
        check.due("then: all one", x.then(5, 5, 5), x.leaves(5));
        x.then(6, 3, 3);
        check.due("then: all one, as elsewhere", x.same(5, 6), 1);
        swapped(x);
    }

    private static void swapped(TreePairs x) {
        Check.put(x, 1, 0, 1, 1, 1, 1, 1, 0);
        x.make(7);
        check.due("then: halves changed, then X(0)", x.then(8, 7, 0), 3);
        check.map("then: halves changed, then X(0)", x, 8, 2, 0, 2, 1, 2, 1, 1, 1, 1, 1, 2, 0);
        check.due("then: X(0), then halves changed", x.then(8, 0, 7), 3);
        check.map("then: X(0), then halves changed", x, 8, 1, 0, 2, 2, 2, 2, 2, 3, 2, 3, 1, 0);
    }

    private static void refusedThens() {
        TreePairs x = new TreePairs();
        x.strong(0, 0);
        x.power(1, 0, 12);
        x.then(2, 1, 1);
        check.due("then: 24 leaves are not too many", x.power(3, 0, 11), 13);
        check.due("then: 24", x.then(3, 3, 3), 24);
        long before = x.digest();
        check.due("then: 25", x.then(4, 3, 0), FULL);
        check.due("then: 26", x.then(4, 1, 1), FULL);
        check.due("then: t", x.then(12, 1, 1), UNKNOWN);
        check.due("then: t below", x.then(-1, 1, 1), UNKNOWN);
        check.due("then: a", x.then(4, 5, 0), UNKNOWN);
        check.due("then: b", x.then(4, 0, 5), UNKNOWN);
        check.due("then: a outside", x.then(4, 12, 0), UNKNOWN);
        check.due("then: b outside", x.then(4, 0, -1), UNKNOWN);
        check.due("then: refused ones change nothing", x.digest(), before);
        check.due("then: not there", x.leaves(4), UNKNOWN);
    }

    private static void turns() {
        TreePairs x = new TreePairs();
        x.strong(0, 0);
        check.due("turn: X(0)", x.turn(1, 0), 3);
        check.map("turn: X(0)", x, 1, 2, 0, 1, 0, 2, 1, 2, 2, 1, 1, 2, 3);
        Check.put(x, 1, 0, 2, 1, 2, 2, 2, 0, 2, 3, 1, 1);
        x.make(2);
        check.due("turn: onto itself", x.turn(2, 2), 3);
        check.map("turn: from left to right", x, 2, 2, 0, 2, 2, 2, 1, 1, 0, 1, 1, 2, 3);
        check.due("turn: twice", x.turn(3, 1), 3);
        check.due("turn: twice is the first", x.same(3, 0), 1);
        long before = x.digest();
        check.due("turn: t", x.turn(12, 0), UNKNOWN);
        check.due("turn: t below", x.turn(-1, 0), UNKNOWN);
        check.due("turn: a", x.turn(0, 9), UNKNOWN);
        check.due("turn: a outside", x.turn(0, 12), UNKNOWN);
        check.due("turn: a below", x.turn(0, -1), UNKNOWN);
        check.due("turn: refused ones change nothing", x.digest(), before);
    }

    private static void powers() {
        TreePairs x = new TreePairs();
        x.strong(0, 0);
        for (int k = 0; k <= 12; k++) {
            check.due("power(1, 0, " + k + ")", x.power(1, 0, k), k == 0 ? 1 : k + 2);
            check.due("power(2, 0, -" + k + ")", x.power(2, 0, -k), k == 0 ? 1 : k + 2);
            check.due("power: turned " + k, x.then(3, 1, 2), 1);
        }
        x.power(1, 0, 3);
        x.then(2, 0, 0);
        x.then(2, 2, 0);
        check.due("power: 3 as by then", x.same(1, 2), 1);
        x.power(1, 0, -2);
        check.map("power: -2", x, 1, 3, 0, 1, 0, 3, 1, 2, 2, 2, 1, 3, 6, 1, 1, 3, 7);
        check.due("power: onto itself", x.power(0, 0, 2), 4);
        check.map("power: onto itself", x, 0, 1, 0, 3, 0, 2, 2, 3, 1, 3, 6, 2, 1, 3, 7, 1, 1);
        check.due("power: NOTHING onto itself", x.power(0, 0, 0), 1);
        check.map("power: NOTHING", x, 0, 0, 0, 0, 0);
    }

    private static void refusedPowers() {
        TreePairs x = new TreePairs();
        x.strong(0, 0);
        x.power(1, 0, 2);
        long before = x.digest();
        check.due("power: 13", x.power(2, 0, 13), OUTSIDE);
        check.due("power: -13", x.power(2, 0, -13), OUTSIDE);
        check.due("power: MIN", x.power(2, 0, Integer.MIN_VALUE), OUTSIDE);
        check.due("power: MAX", x.power(2, 0, Integer.MAX_VALUE), OUTSIDE);
        check.due("power: t", x.power(12, 0, 13), UNKNOWN);
        check.due("power: t below", x.power(-1, 0, 0), UNKNOWN);
        check.due("power: a", x.power(0, 5, 13), UNKNOWN);
        check.due("power: a outside", x.power(0, 12, 0), UNKNOWN);
        check.due("power: FULL", x.power(2, 1, 12), FULL);
        check.due("power: FULL below", x.power(2, 1, -12), FULL);
        check.due("power: OUTSIDE ahead of FULL", x.power(2, 1, 14), OUTSIDE);
        check.due("power: refused ones change nothing", x.digest(), before);
        check.due("power: 24", x.power(2, 1, 11), 24);
    }

    /**
     * Quarters go round, two of them with their eighths turned round: POWER 4 is NOTHING, but POWER 2
     * has 32 leaves.
     */
    private static void fullOnTheWay() {
        TreePairs x = new TreePairs();
        Check.put(x, 2, 0, 2, 1, 2, 2, 2, 3);
        for (int i = 0; i < 8; i++) {
            Check.put(x, 5, 8 + i, 5, 16 + 7 - i, 5, 24 + i, 5, 7 - i);
        }
        check.due("on the way: made", x.make(0), 18);
        check.due("on the way: power 1", x.power(1, 0, 1), 18);
        check.due("on the way: power -1", x.power(2, 0, -1), 18);
        check.due("on the way: both together", x.then(3, 1, 2), 1);
        for (int k = 2; k <= 5; k++) {
            check.due("on the way: power " + k, x.power(4, 0, k), FULL);
            check.due("on the way: power -" + k, x.power(4, 0, -k), FULL);
        }
        check.due("on the way: not there", x.leaves(4), UNKNOWN);
        check.due("on the way: no order", x.order(0), 0);
    }

    private static void drops() {
        TreePairs x = new TreePairs();
        x.strong(0, 0);
        x.strong(11, 6);
        check.due("drop(11)", x.drop(11), 9);
        check.due("drop: not there", x.leaves(11), UNKNOWN);
        check.due("drop: again", x.drop(11), UNKNOWN);
        check.due("drop: the other stays", x.leaves(0), 3);
        check.due("drop(12)", x.drop(12), UNKNOWN);
        check.due("drop(-1)", x.drop(-1), UNKNOWN);
        check.due("drop: counted", x.count(0), 1);
        check.due("drop: comes again", x.strong(11, 1), 4);
    }
}
