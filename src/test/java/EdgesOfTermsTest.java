import java.util.Arrays;

/** What the words LEAF, CUT, MAP, REDUCED, SORTS, THEN, POWER, ORDER, STRONG, LENGTH and STILL bound. */
final class EdgesOfTermsTest {
    private static final Check check = new Check();
    private static final int OUTSIDE = TreePairs.OUTSIDE, STATE = TreePairs.STATE;

    public static void main(String[] args) {
        depthOfLeaf();
        placeOfLeaf();
        rightEndIsNotIn();
        lastOfTheCalls();
        cutHasUnlikeLeaves();
        cutIsTheWholeStretch();
        cutInAnyTurn();
        fewestLeaves();
        mostLeaves();
        reducedHalvesOnly();
        reducedAgainAndAgain();
        reducedWhateverTheLengths();
        keptReduced();
        fromLeftToRight();
        sortInOrder();
        sortRound();
        sortAnyhow();
        thenFirstAndNext();
        powerNothing();
        orderBounds();
        orderOnTheWay();
        strongOnes();
        lengthBounds();
        stillOnes();
        check.end();
    }

    private static void depthOfLeaf() {
        check.about("LEAF: d is 0 to 23");
        TreePairs x = new TreePairs();
        check.due("pair: d 0", x.pair(0, 0, 1, 0), 1);
        check.due("pair: e 0", x.pair(1, 0, 0, 0), 2);
        check.due("pair: d 23", x.pair(23, 0, 1, 0), 3);
        check.due("pair: e 23", x.pair(1, 0, 23, 0), 4);
        int[] beyond = {-1, 24, 31, 32, 33, -32, Integer.MIN_VALUE, Integer.MAX_VALUE};
        for (int d : beyond) {
            check.stays("pair: d " + d, x, () -> x.pair(d, 0, 1, 0), OUTSIDE);
            check.stays("pair: e " + d, x, () -> x.pair(1, 0, d, 0), OUTSIDE);
        }
    }

    private static void placeOfLeaf() {
        check.about("LEAF: c is 0 to 2^d less 1");
        for (int d = 0; d <= 23; d++) {
            TreePairs x = new TreePairs();
            int depth = d;
            int end = 1 << d;
            check.due("pair: first c of " + d, x.pair(d, 0, 0, 0), 1);
            check.due("pair: last c of " + d, x.pair(d, end - 1, 0, 0), 2);
            check.due("pair: first b of " + d, x.pair(0, 0, d, 0), 3);
            check.due("pair: last b of " + d, x.pair(0, 0, d, end - 1), 4);
            int[] beyond = {-1, end, end + 1, Integer.MIN_VALUE, Integer.MAX_VALUE};
            for (int c : beyond) {
                check.stays("pair: c " + c + " of " + d, x, () -> x.pair(depth, c, 0, 0), OUTSIDE);
                check.stays("pair: b " + c + " of " + d, x, () -> x.pair(0, 0, depth, c), OUTSIDE);
            }
        }
    }

    /** Each leaf of a comb takes its first point and the last one by 2^30; the next leaf has its end. */
    private static void rightEndIsNotIn() {
        check.about("LEAF: its right end not in it");
        TreePairs x = new TreePairs();
        int[][] from = Cuts.right(24);
        int[][] onto = Cuts.round(from, 1);
        check.due("made", Cuts.make(x, 0, from, onto), 24);
        for (int i = 0; i < 24; i++) {
            int d = from[i][0];
            int e = onto[i][0];
            check.due("go: start of " + i, x.go(0, d, from[i][1]), 1);
            seenIs(x, "start of " + i, e, onto[i][1]);
            check.due("go: last of " + i, x.go(0, 30, ((from[i][1] + 1L) << (30 - d)) - 1), 1);
            seenIs(x, "last of " + i, e + 30 - d, ((onto[i][1] + 1L) << (30 - d)) - 1);
        }
    }

    /** The seen point is c by 2^d, told in lowest terms. */
    private static void seenIs(TreePairs x, String name, int d, long c) {
        int depth = d;
        long place = c;
        while (depth > 0 && place % 2 == 0) {
            depth--;
            place /= 2;
        }
        check.due(name + ": seen(0)", x.seen(0), depth);
        check.due(name + ": seen(1)", x.seen(1), place);
    }

    private static void lastOfTheCalls() {
        check.about("An object is used for at most 512 calls");
        for (int which = 0; which < 8; which++) {
            TreePairs x = new TreePairs();
            x.strong(0, 0);
            x.power(1, 0, 11);
            x.turn(2, 1);
            for (int call = 4; call <= 511; call++) {
                dear(x, which, call);
            }
            check.due("512th call", x.leaves(1), 13);
        }
        TreePairs x = new TreePairs();
        for (int call = 1; call <= 512; call++) {
            check.due("call " + call, call % 2 == 1 ? x.pair(0, 0, 0, 0) : x.make(call % 12), 1);
        }
    }

    private static void dear(TreePairs x, int which, int call) {
        String name = "call " + call;
        switch (which) {
            case 0 -> check.due(name + ": then", x.then(3, 1, 1), 24);
            case 1 -> check.due(name + ": power", x.power(4, 0, -12), 14);
            case 2 -> check.due(name + ": order", x.order(0), 0);
            case 3 -> check.due(name + ": commute", x.commute(1, 2), 1);
            case 4 -> check.due(name + ": length", x.length(2), TreePairs.NONE);
            case 5 -> check.due(name + ": ball", x.ball(4), 108);
            case 6 -> check.due(name + ": turn", x.turn(5, 2), 13);
            default -> check.due(name + ": strong", x.strong(6, call % 7), call % 7 + 3);
        }
    }

    private static void noCut(String name, int[][] from, int[][] onto) {
        TreePairs x = new TreePairs();
        x.strong(0, 1);
        Cuts.put(x, from, onto);
        check.stays("make: " + name, x, () -> x.make(0), STATE);
        check.stays("make: " + name + ", not there yet", x, () -> x.make(1), STATE);
        TreePairs y = new TreePairs();
        Cuts.put(y, onto, from);
        check.stays("make: turned: " + name, y, () -> y.make(0), STATE);
    }

    private static void cutHasUnlikeLeaves() {
        check.about("CUT: LEAVES that are unlike");
        int[][] halves = Cuts.even(1);
        noCut("(0, 0) twice", new int[][] {{0, 0}, {0, 0}}, halves);
        noCut("(1, 0) twice", new int[][] {{1, 0}, {1, 0}}, halves);
        noCut("(1, 1) twice", new int[][] {{1, 1}, {1, 1}}, halves);
        noCut("a half twice beside the other", new int[][] {{1, 0}, {1, 1}, {1, 1}}, Cuts.right(3));
        noCut("a half twice ahead of the other", new int[][] {{1, 0}, {1, 0}, {1, 1}}, Cuts.right(3));
        int[][] deep = Cuts.right(24);
        deep[23] = deep[22];
        noCut("the last but one of 24 twice", deep, Cuts.left(24));
    }

    private static void cutIsTheWholeStretch() {
        check.about("CUT: together just the stretch (0, 0)");
        int[][] one = {{0, 0}};
        int[][] two = Cuts.even(1);
        int[][] three = Cuts.right(3);
        noCut("(1, 0) alone", new int[][] {{1, 0}}, one);
        noCut("(1, 1) alone", new int[][] {{1, 1}}, one);
        noCut("(23, 0) alone", new int[][] {{23, 0}}, one);
        noCut("no first quarter", new int[][] {{2, 1}, {1, 1}}, two);
        noCut("no second quarter", new int[][] {{2, 0}, {1, 1}}, two);
        noCut("no third quarter", new int[][] {{1, 0}, {2, 3}}, two);
        noCut("no last quarter", new int[][] {{1, 0}, {2, 2}}, two);
        noCut("a half in the whole", new int[][] {{0, 0}, {1, 0}}, two);
        noCut("the last half in the whole", new int[][] {{0, 0}, {1, 1}}, two);
        noCut("quarters in their half, in all 1", new int[][] {{1, 0}, {2, 0}, {2, 1}}, three);
        noCut("quarters in the last half, in all 1", new int[][] {{1, 1}, {2, 2}, {2, 3}}, three);
        noCut("a quarter beside its half", new int[][] {{1, 0}, {2, 1}, {1, 1}}, three);
        int[][] deep = Cuts.right(24);
        deep[23] = new int[] {23, 0};
        noCut("one at the other end than 24 want", deep, Cuts.left(24));
        deep[23] = new int[] {22, 4194303};
        noCut("one larger than 24 want", deep, Cuts.left(24));
        int[][] short23 = Arrays.copyOf(Cuts.right(24), 23);
        noCut("one fewer than 24 want", short23, Cuts.left(23));
    }

    private static void cutInAnyTurn() {
        check.about("CUT: the pairs come in any turn");
        int[][] from = Cuts.right(24);
        int[][] onto = Cuts.round(Cuts.left(24), 1);
        TreePairs x = new TreePairs();
        check.due("as they stand", Cuts.make(x, 0, from, onto), 24);
        for (int by = 1; by < 24; by++) {
            check.due("from the " + by + "th on", Cuts.make(x, 1, Cuts.round(from, by), Cuts.round(onto, by)), 24);
            check.due("from the " + by + "th on: the same", x.same(0, 1), 1);
        }
    }

    private static void fewestLeaves() {
        check.about("MAP: 1 LEAF at least");
        TreePairs x = new TreePairs();
        check.stays("make: none", x, () -> x.make(0), STATE);
        check.due("make: one", Cuts.make(x, 0, Cuts.right(1), Cuts.right(1)), 1);
        check.map("one", x, 0, 0, 0, 0, 0);
    }

    private static void mostLeaves() {
        check.about("MAP: 24 LEAVES at most");
        TreePairs x = new TreePairs();
        check.due("make: 24", Cuts.make(x, 0, Cuts.right(24), Cuts.left(24)), 24);
        check.due("make: 24, turned", Cuts.make(x, 1, Cuts.left(24), Cuts.right(24)), 24);
        check.due("then: each turns the other about", x.then(2, 0, 1), 1);
        for (int i = 0; i < 24; i++) {
            int c = i == 23 ? 8388607 : (2 << i) - 2;
            check.due("first d of " + i, x.leaf(0, i, 0), Math.min(i + 1, 23));
            check.due("first c of " + i, x.leaf(0, i, 1), c);
            check.due("second d of " + i, x.leaf(0, i, 2), Math.min(24 - i, 23));
            check.due("second c of " + i, x.leaf(0, i, 3), i == 0 ? 0 : 1);
        }
    }

    private static void made(String name, int want, int... told) {
        TreePairs x = new TreePairs();
        Check.put(x, told);
        check.due("make: " + name, x.make(0), want);
        if (want == told.length / 4) {
            check.map(name, x, 0, told);
        }
    }

    private static void reducedHalvesOnly() {
        check.about("REDUCED: (d, 2 c), (d, 2 c and 1) onto (e, 2 b), (e, 2 b and 1), no others");
        made("halves onto halves", 1, 1, 0, 1, 0, 1, 1, 1, 1);
        made("halves exchanged", 2, 1, 0, 1, 1, 1, 1, 1, 0);
        made("neighbours onto neighbours, neither halves of one", 4,
            2, 0, 2, 3, 2, 1, 2, 1, 2, 2, 2, 2, 2, 3, 2, 0);
        made("halves of one onto neighbours", 4, 2, 0, 2, 1, 2, 1, 2, 2, 2, 2, 2, 3, 2, 3, 2, 0);
        made("neighbours onto halves of one", 4, 2, 0, 2, 2, 2, 1, 2, 0, 2, 2, 2, 1, 2, 3, 2, 3);
        made("halves onto two of unlike length", 3, 2, 0, 1, 0, 2, 1, 2, 2, 1, 1, 2, 3);
        made("two of unlike length onto halves", 3, 1, 0, 2, 0, 2, 2, 2, 1, 2, 3, 1, 1);
        made("halves onto halves of two", 4, 2, 0, 2, 0, 2, 1, 2, 3, 2, 2, 2, 2, 2, 3, 2, 1);
        made("halves apart onto halves", 4, 2, 0, 2, 0, 2, 1, 2, 2, 2, 2, 2, 3, 2, 3, 2, 1);
        made("the left ones alone", 3, 2, 0, 2, 2, 2, 1, 2, 3, 2, 2, 2, 1, 2, 3, 2, 0);
        made("the right ones alone", 3, 2, 0, 2, 3, 2, 1, 2, 2, 2, 2, 2, 0, 2, 3, 2, 1);
    }

    private static void reducedAgainAndAgain() {
        check.about("REDUCED: again and again");
        TreePairs x = new TreePairs();
        for (int n = 1; n <= 24; n++) {
            check.due("right comb of " + n, Cuts.make(x, 0, Cuts.right(n), Cuts.right(n)), 1);
            check.due("left comb of " + n, Cuts.make(x, 0, Cuts.left(n), Cuts.left(n)), 1);
        }
        for (int d = 0; d <= 4; d++) {
            check.due("all of " + d, Cuts.make(x, 0, Cuts.even(d), Cuts.even(d)), 1);
        }
        int[][] eight = Cuts.even(3);
        int[][] both = Cuts.join(Cuts.in(1, 0, eight), Cuts.in(1, 1, eight));
        check.due("halves of eight exchanged", Cuts.make(x, 0, both, Cuts.round(both, 8)), 2);
        check.map("halves of eight exchanged", x, 0, 1, 0, 1, 1, 1, 1, 1, 0);
        int[][] mixed = Cuts.join(Cuts.in(1, 0, Cuts.left(12)), Cuts.in(1, 1, Cuts.right(12)));
        check.due("halves of combs exchanged", Cuts.make(x, 0, mixed, Cuts.join(
            Cuts.in(1, 1, Cuts.left(12)), Cuts.in(1, 0, Cuts.right(12)))), 2);
    }

    private static void reducedWhateverTheLengths() {
        check.about("REDUCED: d and e may be unlike");
        TreePairs x = new TreePairs();
        int[][] fine = Cuts.even(3);
        int[][] from = Cuts.join(Cuts.in(1, 0, fine), Cuts.in(2, 2, fine), new int[][] {{2, 3}});
        int[][] onto = Cuts.join(Cuts.in(2, 0, fine), Cuts.in(2, 1, fine), new int[][] {{1, 1}});
        check.due("made of 17", Cuts.make(x, 0, from, onto), 3);
        check.map("made of 17", x, 0, 1, 0, 2, 0, 2, 2, 2, 1, 2, 3, 1, 1);
    }

    private static void keptReduced() {
        check.about("MAPS are always kept REDUCED");
        TreePairs x = new TreePairs();
        int[][] all = Cuts.even(4);
        check.due("round by 2 of 16", Cuts.make(x, 0, all, Cuts.round(all, 2)), 8);
        check.due("round by 1 of 16", Cuts.make(x, 1, all, Cuts.round(all, 1)), 16);
        check.due("then: by 2", x.then(2, 1, 1), 8);
        check.due("then: by 2, the same", x.same(0, 2), 1);
        check.due("power: by 4", x.power(2, 1, 4), 4);
        check.due("power: by 8", x.power(2, 1, 8), 2);
        check.due("power: by -8", x.power(3, 1, -8), 2);
        check.due("power: by 8 and by -8 are the same", x.same(2, 3), 1);
        check.due("then: by 16", x.then(2, 2, 2), 1);
        check.due("turn: by 14", x.turn(2, 0), 8);
    }

    private static void fromLeftToRight() {
        check.about("MAPS: LEAVES of the first CUT from left to right");
        TreePairs x = new TreePairs();
        Check.put(x, 2, 3, 2, 0, 2, 2, 2, 1, 1, 0, 1, 1);
        check.due("make: from right to left", x.make(0), 3);
        check.map("make", x, 0, 1, 0, 1, 1, 2, 2, 2, 1, 2, 3, 2, 0);
        check.due("turn", x.turn(1, 0), 3);
        check.map("turn", x, 1, 2, 0, 2, 3, 2, 1, 2, 2, 1, 1, 1, 0);
        check.due("then", x.then(2, 1, 1), 4);
        check.map("then", x, 2, 2, 0, 2, 1, 2, 1, 2, 0, 2, 2, 2, 3, 2, 3, 2, 2);
    }

    private static void sortIs(String name, int want, int[][] from, int[][] onto, int many) {
        TreePairs x = new TreePairs();
        check.due(name + ": made", Cuts.make(x, 0, from, onto), many);
        check.due(name + ": sort", x.sort(0), want);
        x.turn(1, 0);
        check.due(name + ": sort of it turned", x.sort(1), want);
    }

    private static void sortInOrder() {
        check.about("SORT 0: the second LEAVES come from left to right, too");
        sortIs("NOTHING", 0, Cuts.right(1), Cuts.right(1), 1);
        sortIs("the whole line in 24", 0, Cuts.left(24), Cuts.left(24), 1);
        sortIs("three", 0, Cuts.right(3), Cuts.left(3), 3);
        sortIs("24", 0, Cuts.right(24), Cuts.left(24), 24);
    }

    private static void sortRound() {
        check.about("SORT 1: not so, but each right behind the one ahead, the leftmost behind the last");
        sortIs("two", 1, Cuts.even(1), Cuts.round(Cuts.even(1), 1), 2);
        for (int by = 1; by < 24; by++) {
            // the last two of the right comb go onto the first two of the left one: they are reduced
            sortIs("24 by " + by, 1, Cuts.right(24), Cuts.round(Cuts.left(24), by), by == 2 ? 23 : 24);
        }
    }

    private static void sortAnyhow() {
        check.about("SORT 2: ANYHOW");
        int[][] comb = Cuts.left(24);
        int[][] turned = Cuts.round(comb, 5);
        for (int i = 0; i < 23; i++) {
            sortIs("24 in order, two exchanged at " + i, 2, Cuts.right(24), Cuts.exchanged(comb, i, i + 1), 24);
            sortIs("24 round, two exchanged at " + i, 2, Cuts.right(24), Cuts.exchanged(turned, i, i + 1), 24);
        }
        sortIs("three, the first in its place", 2, Cuts.right(3), Cuts.exchanged(Cuts.left(3), 1, 2), 3);
        sortIs("three, the last in its place", 2, Cuts.right(3), Cuts.exchanged(Cuts.left(3), 0, 1), 3);
        sortIs("three from right to left", 2, Cuts.right(3), Cuts.exchanged(Cuts.left(3), 0, 2), 3);
    }

    private static void thenFirstAndNext() {
        check.about("a THEN b: each point goes where b takes it from where a took it");
        TreePairs x = new TreePairs();
        x.strong(0, 0);
        Cuts.make(x, 1, Cuts.even(1), Cuts.round(Cuts.even(1), 1));
        x.then(2, 0, 1);
        x.then(3, 1, 0);
        for (long c = 0; c < 64; c++) {
            goesAsBoth(x, 2, 0, 1, c);
            goesAsBoth(x, 3, 1, 0, c);
        }
        x.go(2, 0, 0);
        seenIs(x, "0 by X(0), then halves exchanged", 1, 1);
        x.go(3, 0, 0);
        seenIs(x, "0 by halves exchanged, then X(0)", 2, 1);
    }

    private static void goesAsBoth(TreePairs x, int both, int a, int b, long c) {
        x.go(a, 6, c);
        x.go(b, (int) x.seen(0), x.seen(1));
        int d = (int) x.seen(0);
        long place = x.seen(1);
        x.go(both, 6, c);
        seenIs(x, c + " by 64", d, place);
    }

    private static void powerNothing() {
        check.about("POWER k: k times; below 0: THE TURNED ONE; 0: NOTHING");
        TreePairs x = new TreePairs();
        Cuts.make(x, 0, Cuts.right(24), Cuts.left(24));
        x.turn(1, 0);
        check.due("24: power 0", x.power(2, 0, 0), 1);
        check.map("24: power 0", x, 2, 0, 0, 0, 0);
        check.due("24: power 1", x.power(2, 0, 1), 24);
        check.due("24: power 1 is itself", x.same(2, 0), 1);
        check.due("24: power -1", x.power(2, 0, -1), 24);
        check.due("24: power -1 is the turned one", x.same(2, 1), 1);
    }

    private static void orderBounds() {
        check.about("ORDER: the least k from 1 to 40");
        TreePairs x = new TreePairs();
        check.due("NOTHING", Cuts.make(x, 0, Cuts.right(1), Cuts.right(1)), 1);
        check.due("NOTHING: order", x.order(0), 1);
        wheels(x, 1, 2, 2);
        wheels(x, 3, 13, 39);
        wheels(x, 5, 8, 40);
        // 42 is the first order beyond 40 that wheels of 24 leaves have
        wheels(x, 6, 7, 0);
        wheels(x, 4, 11, 0);
    }

    private static void wheels(TreePairs x, int p, int q, int want) {
        check.due("wheels of " + p + " and " + q, Cuts.wheels(x, 0, Cuts.right(p + q), p), p + q);
        check.due("wheels of " + p + " and " + q + ": order", x.order(0), want);
    }

    private static void orderOnTheWay() {
        check.about("ORDER: none, if a POWER on the way is too large");
        TreePairs x = new TreePairs();
        check.due("POWER 2 of 24: made", Cuts.fourWheel(x, 0, 24), 23);
        check.due("POWER 2 of 24", x.order(0), 4);
        check.due("POWER 2 of 25: made", Cuts.fourWheel(x, 0, 25), 24);
        check.due("POWER 2 of 25", x.order(0), 0);
    }

    private static void strongOnes() {
        check.about("STRONG ones, X(i) for i 0 to 6");
        TreePairs x = new TreePairs();
        for (int i = 0; i <= 6; i++) {
            check.due("X(" + i + ")", x.strong(0, i), i + 3);
            check.due("X(" + i + ") by pairs", Cuts.strong(x, 1, i), i + 3);
            check.due("X(" + i + "): the same", x.same(0, 1), 1);
        }
    }

    private static void lengthBounds() {
        check.about("LENGTH: 0 to 4");
        TreePairs x = new TreePairs();
        x.strong(0, 0);
        x.strong(1, 1);
        int[] due = {0, 1, 2, 3, 4, -1, -1};
        for (int k = 0; k <= 6; k++) {
            for (int a = 0; a < 2; a++) {
                x.power(2, a, k);
                check.due("X(" + a + ") by " + k, x.length(2), due[k]);
                x.power(2, a, -k);
                check.due("X(" + a + ") by -" + k, x.length(2), due[k]);
            }
        }
    }

    private static void stillOnes() {
        check.about("SINGLE points: in LEAVES that go onto another LEAF or one of another length");
        TreePairs x = new TreePairs();
        Cuts.make(x, 0, Cuts.right(1), Cuts.right(1));
        check.due("all stay, none single", x.single(0), 0);
        x.strong(0, 6);
        check.due("six leaves stay", x.still(0), 6);
        check.due("the first point behind them alone", x.single(0), 1);
        Cuts.make(x, 0, Cuts.even(2), Cuts.round(Cuts.even(2), 1));
        check.due("of the same length: none", x.single(0), 0);
    }
}
