/** The edges of promises 5 to 9: strong, then, turn, power, drop. */
final class EdgesOfMapsTest {
    private static final Check check = new Check();
    private static final int UNKNOWN = TreePairs.UNKNOWN, OUTSIDE = TreePairs.OUTSIDE, FULL = TreePairs.FULL;

    public static void main(String[] args) {
        strongNumbers();
        strongOutside();
        strongOverAnother();
        thenNumbers();
        thenNotThere();
        thenMost();
        thenFullKeepsT();
        thenUnknownAheadOfFull();
        thenManyPiecesReduced();
        thenOntoItsOwn();
        turnNumbers();
        turnMost();
        turnOntoItself();
        powerNumbers();
        powerOutside();
        powerUnknownAheadOfOutside();
        powerMost();
        powerOutsideAheadOfFull();
        powerFullOnTheWay();
        powerFullAtTheFirstStep();
        powerOntoItself();
        dropNumbers();
        dropTwice();
        dropTellsLeaves();
        handAndSeenStay();
        check.end();
    }

    private static void strongNumbers() {
        check.about("Promise 5: UNKNOWN: t");
        TreePairs x = new TreePairs();
        check.due("strong(0, 0)", x.strong(0, 0), 3);
        check.due("strong(11, 6)", x.strong(11, 6), 9);
        for (int t : Cuts.NO_NUMBER) {
            check.stays("strong(" + t + ", 0)", x, () -> x.strong(t, 0), UNKNOWN);
            check.stays("UNKNOWN ahead of OUTSIDE: strong(" + t + ", 7)", x, () -> x.strong(t, 7), UNKNOWN);
            check.stays("UNKNOWN ahead of OUTSIDE: strong(" + t + ", -1)", x, () -> x.strong(t, -1), UNKNOWN);
        }
    }

    private static void strongOutside() {
        check.about("Promise 5: OUTSIDE: i");
        TreePairs x = new TreePairs();
        x.strong(0, 3);
        int[] beyond = {-1, 7, Integer.MIN_VALUE, Integer.MAX_VALUE};
        for (int i : beyond) {
            check.stays("strong(0, " + i + ")", x, () -> x.strong(0, i), OUTSIDE);
            check.stays("strong(1, " + i + ")", x, () -> x.strong(1, i), OUTSIDE);
        }
        check.due("strong(0, 0)", x.strong(0, 0), 3);
        check.due("strong(0, 6)", x.strong(0, 6), 9);
    }

    private static void strongOverAnother() {
        check.about("Promise 5: t becomes X(i)");
        TreePairs x = new TreePairs();
        most(x, 0);
        check.due("X(0) over 24", x.strong(0, 0), 3);
        check.map("X(0) over 24", x, 0, 1, 0, 2, 0, 2, 2, 2, 1, 2, 3, 1, 1);
        check.due("no 4th pair", x.leaf(0, 3, 0), UNKNOWN);
    }

    private static void most(TreePairs x, int t) {
        Cuts.make(x, t, Cuts.right(24), Cuts.left(24));
    }

    private static void thenNumbers() {
        check.about("Promise 6: UNKNOWN: t, a, b");
        TreePairs x = new TreePairs();
        x.strong(0, 0);
        x.strong(11, 1);
        check.due("then(1, 0, 0)", x.then(1, 0, 0), 4);
        check.due("then(0, 11, 11)", x.then(0, 11, 11), 5);
        check.due("then(11, 0, 1)", x.then(11, 0, 1), x.leaves(11));
        for (int n : Cuts.NO_NUMBER) {
            check.stays("t " + n, x, () -> x.then(n, 0, 1), UNKNOWN);
            check.stays("a " + n, x, () -> x.then(0, n, 1), UNKNOWN);
            check.stays("b " + n, x, () -> x.then(0, 1, n), UNKNOWN);
        }
    }

    private static void thenNotThere() {
        check.about("Promise 6: UNKNOWN: a, b are not there; t may be not there");
        TreePairs x = new TreePairs();
        x.strong(0, 0);
        check.stays("a", x, () -> x.then(0, 1, 0), UNKNOWN);
        check.stays("b", x, () -> x.then(0, 0, 1), UNKNOWN);
        check.stays("a and b", x, () -> x.then(0, 1, 1), UNKNOWN);
        check.due("t", x.then(1, 0, 0), 4);
        x.drop(1);
        check.stays("dropped", x, () -> x.then(0, 0, 1), UNKNOWN);
    }

    private static void thenMost() {
        check.about("Promise 6: FULL: more than 24 LEAVES");
        TreePairs x = new TreePairs();
        x.strong(0, 0);
        x.power(1, 0, 11);
        x.power(2, 0, 12);
        check.due("24", x.then(3, 1, 1), 24);
        check.due("24 is POWER 22", x.then(4, 2, 0), 15);
        check.stays("25", x, () -> x.then(5, 1, 2), FULL);
        check.stays("25, the other way", x, () -> x.then(5, 2, 1), FULL);
        check.stays("25 of 24 and 3", x, () -> x.then(5, 3, 0), FULL);
        x.turn(6, 0);
        check.due("23 of 24 and 3", x.then(5, 3, 6), 23);
    }

    private static void thenFullKeepsT() {
        check.about("Promise 6: FULL changes nothing");
        TreePairs x = new TreePairs();
        x.strong(0, 0);
        x.power(1, 0, 12);
        check.stays("t not there", x, () -> x.then(2, 1, 1), FULL);
        check.stays("t there", x, () -> x.then(0, 1, 1), FULL);
        check.stays("t is a and b", x, () -> x.then(1, 1, 1), FULL);
        check.due("t not there: leaves", x.leaves(2), UNKNOWN);
    }

    private static void thenUnknownAheadOfFull() {
        check.about("Promise 6: UNKNOWN ahead of FULL");
        TreePairs x = new TreePairs();
        x.strong(0, 0);
        x.power(1, 0, 12);
        for (int t : Cuts.NO_NUMBER) {
            check.stays("t " + t, x, () -> x.then(t, 1, 1), UNKNOWN);
        }
    }

    /**
     * Of 24 and 24 leaves are made 30 pieces; the 16 in the left half, put round and back, are one leaf
     * again.
     */
    private static void thenManyPiecesReduced() {
        check.about("Promise 6: FULL: more than 24 LEAVES REDUCED");
        TreePairs x = new TreePairs();
        int[][] fine = Cuts.in(1, 0, Cuts.even(4));
        int[][] one = Cuts.in(2, 2, Cuts.right(7));
        int[][] other = Cuts.in(2, 3, Cuts.right(7));
        int[][] third = {{2, 2}};
        int[][] last = {{2, 3}};
        check.due("a", Cuts.make(x, 0, Cuts.join(fine, one, last),
            Cuts.join(Cuts.round(fine, 1), Cuts.round(one, 1), last)), 24);
        check.due("b", Cuts.make(x, 1, Cuts.join(fine, third, other),
            Cuts.join(Cuts.round(fine, 15), third, Cuts.round(other, 1))), 24);
        check.due("a THEN b", x.then(2, 0, 1), 15);
        check.due("b THEN a", x.then(3, 1, 0), 15);
        check.due("both the same", x.same(2, 3), 1);
        check.due("commute", x.commute(0, 1), 1);
        check.due("the left half", x.leaf(2, 0, 0), 1);
        check.due("b round by 2", Cuts.make(x, 4, Cuts.join(fine, third, other),
            Cuts.join(Cuts.round(fine, 2), third, Cuts.round(other, 1))), 16);
        check.stays("a THEN b round by 2", x, () -> x.then(5, 0, 4), FULL);
        check.stays("b round by 2 THEN a", x, () -> x.then(5, 4, 0), FULL);
    }

    private static void thenOntoItsOwn() {
        check.about("Promise 6: t may be a or b");
        TreePairs x = new TreePairs();
        int[][] from = Cuts.right(24);
        Cuts.make(x, 0, from, Cuts.round(from, 1));
        for (int k = 2; k <= 24; k++) {
            int a = k;
            x.power(1, 0, 1);
            x.power(2, 0, 1);
            for (int n = 1; n < Math.min(a, 5); n++) {
                x.then(1, 1, 0);
                x.then(2, 0, 2);
            }
            check.due("t is a, t is b, " + k, x.same(1, 2), 1);
            x.power(3, 0, Math.min(a, 5));
            check.due("as the power, " + k, x.same(1, 3), 1);
        }
    }

    private static void turnNumbers() {
        check.about("Promise 7: UNKNOWN");
        TreePairs x = new TreePairs();
        x.strong(0, 0);
        check.due("turn(11, 0)", x.turn(11, 0), 3);
        check.due("turn(0, 11)", x.turn(0, 11), 3);
        for (int n : Cuts.NO_NUMBER) {
            check.stays("t " + n, x, () -> x.turn(n, 0), UNKNOWN);
            check.stays("a " + n, x, () -> x.turn(0, n), UNKNOWN);
        }
        check.stays("a not there", x, () -> x.turn(0, 5), UNKNOWN);
        check.due("t not there", x.turn(5, 0), 3);
    }

    private static void turnMost() {
        check.about("Promise 7: LEAVES: 1 and 24");
        TreePairs x = new TreePairs();
        x.pair(0, 0, 0, 0);
        x.make(0);
        check.due("1", x.turn(1, 0), 1);
        check.map("1", x, 1, 0, 0, 0, 0);
        most(x, 0);
        check.due("24", x.turn(1, 0), 24);
        Cuts.make(x, 2, Cuts.left(24), Cuts.right(24));
        check.due("24, as told turned", x.same(1, 2), 1);
    }

    private static void turnOntoItself() {
        check.about("Promise 7: t may be a");
        TreePairs x = new TreePairs();
        most(x, 0);
        x.turn(1, 0);
        check.due("turn(0, 0)", x.turn(0, 0), 24);
        check.due("the same as elsewhere", x.same(0, 1), 1);
        int[][] comb = Cuts.right(24);
        Cuts.make(x, 0, comb, Cuts.round(comb, 7));
        Cuts.make(x, 1, comb, Cuts.round(comb, 17));
        check.due("round by 7, turned", x.turn(0, 0), 24);
        check.due("is round by 17", x.same(0, 1), 1);
    }

    private static void powerNumbers() {
        check.about("Promise 8: UNKNOWN");
        TreePairs x = new TreePairs();
        x.strong(0, 0);
        check.due("power(11, 0, 2)", x.power(11, 0, 2), 4);
        check.due("power(0, 11, 1)", x.power(0, 11, 1), 4);
        for (int n : Cuts.NO_NUMBER) {
            check.stays("t " + n, x, () -> x.power(n, 0, 0), UNKNOWN);
            check.stays("a " + n, x, () -> x.power(0, n, 0), UNKNOWN);
        }
        check.stays("a not there", x, () -> x.power(0, 5, 0), UNKNOWN);
        check.due("t not there", x.power(5, 0, 0), 1);
    }

    private static void powerOutside() {
        check.about("Promise 8: k is -12 to 12");
        TreePairs x = new TreePairs();
        x.strong(0, 0);
        check.due("12", x.power(1, 0, 12), 14);
        check.due("-12", x.power(2, 0, -12), 14);
        check.due("12 and -12", x.then(3, 1, 2), 1);
        int[] beyond = {13, -13, Integer.MIN_VALUE, Integer.MAX_VALUE};
        for (int k : beyond) {
            check.stays("" + k, x, () -> x.power(1, 0, k), OUTSIDE);
            check.stays(k + " of NOTHING", x, () -> x.power(1, 3, k), OUTSIDE);
        }
    }

    private static void powerUnknownAheadOfOutside() {
        check.about("Promise 8: UNKNOWN ahead of OUTSIDE and FULL");
        TreePairs x = new TreePairs();
        most(x, 0);
        check.stays("t, 13", x, () -> x.power(12, 0, 13), UNKNOWN);
        check.stays("t, -13", x, () -> x.power(-1, 0, -13), UNKNOWN);
        check.stays("t, FULL", x, () -> x.power(12, 0, 12), UNKNOWN);
        check.stays("a, 13", x, () -> x.power(0, 1, 13), UNKNOWN);
        check.stays("a, -13", x, () -> x.power(0, 12, -13), UNKNOWN);
    }

    private static void powerMost() {
        check.about("Promise 8: FULL: more than 24 LEAVES");
        TreePairs x = new TreePairs();
        check.due("X(10)", Cuts.strong(x, 0, 10), 13);
        check.due("X(11)", Cuts.strong(x, 1, 11), 14);
        for (int k = 1; k <= 12; k++) {
            check.due("X(10) by " + k, x.power(2, 0, k), 12 + k);
            check.due("X(10) by -" + k, x.power(2, 0, -k), 12 + k);
        }
        check.due("X(11) by 11", x.power(2, 1, 11), 24);
        check.due("X(11) by -11", x.power(3, 1, -11), 24);
        check.stays("X(11) by 12", x, () -> x.power(2, 1, 12), FULL);
        check.stays("X(11) by -12", x, () -> x.power(3, 1, -12), FULL);
        check.stays("X(11) by 12, onto itself", x, () -> x.power(1, 1, 12), FULL);
        check.stays("X(11) by 12, not there yet", x, () -> x.power(4, 1, 12), FULL);
    }

    private static void powerOutsideAheadOfFull() {
        check.about("Promise 8: OUTSIDE ahead of FULL");
        TreePairs x = new TreePairs();
        most(x, 0);
        check.stays("12", x, () -> x.power(1, 0, 12), FULL);
        check.stays("13", x, () -> x.power(1, 0, 13), OUTSIDE);
        check.stays("-12", x, () -> x.power(1, 0, -12), FULL);
        check.stays("-13", x, () -> x.power(1, 0, -13), OUTSIDE);
    }

    private static void powerFullOnTheWay() {
        check.about("Promise 8: FULL: also on the way");
        TreePairs x = new TreePairs();
        int[] due = {1, 23, 24, 23};
        check.due("POWER 2 of 24: made", Cuts.fourWheel(x, 0, 24), 23);
        for (int k = -12; k <= 12; k++) {
            check.due("POWER 2 of 24, by " + k, x.power(1, 0, k), due[k & 3]);
        }
        check.due("POWER 2 of 25: made", Cuts.fourWheel(x, 0, 25), 24);
        x.turn(2, 0);
        for (int k = -12; k <= 12; k++) {
            int by = k;
            if (Math.abs(k) > 1) {
                check.stays("POWER 2 of 25, by " + k, x, () -> x.power(1, 0, by), FULL);
            }
        }
        check.due("by 1", x.power(1, 0, 1), 24);
        check.due("by 1 is itself", x.same(1, 0), 1);
        check.due("by -1", x.power(1, 0, -1), 24);
        check.due("by -1 is the turned one", x.same(1, 2), 1);
        check.due("by 0", x.power(1, 0, 0), 1);
    }

    private static void powerFullAtTheFirstStep() {
        check.about("Promise 8: 24 LEAVES by 2");
        TreePairs x = new TreePairs();
        most(x, 0);
        for (int k = 2; k <= 12; k++) {
            int by = k;
            check.stays("by " + k, x, () -> x.power(0, 0, by), FULL);
            check.stays("by -" + k, x, () -> x.power(0, 0, -by), FULL);
        }
        check.due("by -1, onto itself", x.power(0, 0, -1), 24);
        Cuts.make(x, 1, Cuts.left(24), Cuts.right(24));
        check.due("is the turned one", x.same(0, 1), 1);
    }

    private static void powerOntoItself() {
        check.about("Promise 8: t may be a");
        TreePairs x = new TreePairs();
        for (int k = -12; k <= 12; k++) {
            x.strong(0, 1);
            x.power(1, 0, k);
            check.due("by " + k, x.power(0, 0, k), k == 0 ? 1 : Math.abs(k) + 3);
            check.due("by " + k + ", as elsewhere", x.same(0, 1), 1);
        }
    }

    private static void dropNumbers() {
        check.about("Promise 9: UNKNOWN");
        TreePairs x = new TreePairs();
        x.strong(0, 0);
        x.strong(11, 1);
        x.strong(5, 2);
        for (int n : Cuts.NOBODY) {
            check.stays("drop(" + n + ")", x, () -> x.drop(n), UNKNOWN);
        }
        check.due("drop(0)", x.drop(0), 3);
        check.due("drop(11)", x.drop(11), 4);
        check.due("the other stays", x.leaves(5), 5);
    }

    private static void dropTwice() {
        check.about("Promise 9: is not there any more");
        TreePairs x = new TreePairs();
        x.strong(0, 0);
        check.due("drop", x.drop(0), 3);
        check.stays("drop again", x, () -> x.drop(0), UNKNOWN);
        check.stays("leaves", x, () -> x.leaves(0), UNKNOWN);
        check.stays("leaf", x, () -> x.leaf(0, 0, 0), UNKNOWN);
        check.due("count(0)", x.count(0), 0);
        check.due("as at first", x.digest(), new TreePairs().digest());
        check.due("there again", x.strong(0, 1), 4);
        check.due("drop", x.drop(0), 4);
    }

    private static void dropTellsLeaves() {
        check.about("Promise 9: LEAVES: 1 and 24");
        TreePairs x = new TreePairs();
        most(x, 0);
        check.due("24", x.drop(0), 24);
        x.pair(0, 0, 0, 0);
        x.make(0);
        check.due("1", x.drop(0), 1);
    }

    private static void handAndSeenStay() {
        check.about("Promises 5 to 9: the hand and THE SEEN point stay");
        TreePairs x = new TreePairs();
        x.strong(0, 0);
        x.go(0, 3, 5);
        x.drop(0);
        Check.put(x, 2, 3, 1, 1, 1, 0, 2, 1, 2, 2, 2, 0);
        long before = x.digest();
        x.strong(0, 0);
        x.then(1, 0, 0);
        x.turn(2, 1);
        x.power(3, 2, -3);
        for (int a = 0; a < 4; a++) {
            x.drop(a);
        }
        check.due("digest", x.digest(), before);
        check.due("seen(0)", x.seen(0), 3);
        check.due("seen(1)", x.seen(1), 3);
        check.due("count(1)", x.count(1), 3);
        check.due("make", x.make(0), 3);
    }
}
