import java.util.Arrays;

/** Cuts, as rows of leaves {d, c} from left to right, and maps made of them. */
final class Cuts {
    /** Maps that are never there in these tests, or never can be. */
    static final int[] NOBODY = {-1, 12, 10, Integer.MIN_VALUE, Integer.MAX_VALUE};
    /** Numbers that name no map. */
    static final int[] NO_NUMBER = {-1, 12, Integer.MIN_VALUE, Integer.MAX_VALUE};

    private Cuts() {
    }

    /** (1, 0), (2, 2), (3, 6) ..: the right half is cut again and again. */
    static int[][] right(int n) {
        int[][] cut = new int[n][];
        for (int i = 0; i < n - 1; i++) {
            cut[i] = new int[] {i + 1, (2 << i) - 2};
        }
        cut[n - 1] = new int[] {n - 1, (1 << (n - 1)) - 1};
        return cut;
    }

    /** .., (3, 1), (2, 1), (1, 1): the left half is cut again and again. */
    static int[][] left(int n) {
        int[][] cut = right(n);
        for (int i = 0; i < n / 2; i++) {
            int[] kept = cut[i];
            cut[i] = cut[n - 1 - i];
            cut[n - 1 - i] = kept;
        }
        for (int[] leaf : cut) {
            leaf[1] = (1 << leaf[0]) - 1 - leaf[1];
        }
        return cut;
    }

    /** All leaves of one depth. */
    static int[][] even(int d) {
        int[][] cut = new int[1 << d][];
        for (int c = 0; c < cut.length; c++) {
            cut[c] = new int[] {d, c};
        }
        return cut;
    }

    /** A cut of the leaf (d, c). */
    static int[][] in(int d, int c, int[][] cut) {
        int[][] moved = new int[cut.length][];
        for (int i = 0; i < cut.length; i++) {
            moved[i] = new int[] {d + cut[i][0], (c << cut[i][0]) + cut[i][1]};
        }
        return moved;
    }

    static int[][] join(int[][]... parts) {
        return Arrays.stream(parts).flatMap(Arrays::stream).toArray(int[][]::new);
    }

    /** The same leaves, the one at i being that at (i and by), round. */
    static int[][] round(int[][] cut, int by) {
        int[][] moved = new int[cut.length][];
        for (int i = 0; i < cut.length; i++) {
            moved[i] = cut[(i + by) % cut.length];
        }
        return moved;
    }

    /** The same leaves, two of them exchanged. */
    static int[][] exchanged(int[][] cut, int i, int j) {
        int[][] moved = cut.clone();
        moved[i] = cut[j];
        moved[j] = cut[i];
        return moved;
    }

    /** Pairs at hand: the i-th leaf of the one goes onto the i-th of the other. */
    static void put(TreePairs x, int[][] from, int[][] onto) {
        for (int i = 0; i < from.length; i++) {
            x.pair(from[i][0], from[i][1], onto[i][0], onto[i][1]);
        }
    }

    static int make(TreePairs x, int t, int[][] from, int[][] onto) {
        x.clear();
        put(x, from, onto);
        return x.make(t);
    }

    /** X(i), for i beyond 6 too, where it is made of pairs. */
    static int strong(TreePairs x, int t, int i) {
        int[][] cut = right(i + 1);
        int c = (1 << i) - 1;
        int[][] still = Arrays.copyOf(cut, i);
        int[][] from = {{i + 1, 2 * c}, {i + 2, 4 * c + 2}, {i + 2, 4 * c + 3}};
        int[][] onto = {{i + 2, 4 * c}, {i + 2, 4 * c + 1}, {i + 1, 2 * c + 1}};
        return make(x, t, join(still, from), join(still, onto));
    }

    /** The first p leaves of a cut go round, and those behind them. */
    static int wheels(TreePairs x, int t, int[][] cut, int p) {
        int[][] first = Arrays.copyOf(cut, p);
        int[][] next = Arrays.copyOfRange(cut, p, cut.length);
        return make(x, t, cut, join(round(first, 1), round(next, 1)));
    }

    /**
     * A cut of n leaves with two pairs of halves: the first halves go onto the others, these on to two
     * leaves apart, these on to two more, and back. POWERS 1 and 3 have n less 1 leaves, as the first
     * halves, or the others, are reduced; POWER 2 has n, POWER 4 is NOTHING.
     */
    static int fourWheel(TreePairs x, int t, int n) {
        int l = n - 12;
        int[][] cut = join(in(1, 0, right(l)), in(1, 1, right(12)));
        int[][] onto = cut.clone();
        int[][] wheel = {{l - 2, n - 2, 0, l}, {l - 1, n - 1, 1, l + 1}};
        for (int[] spokes : wheel) {
            for (int i = 0; i < 4; i++) {
                onto[spokes[i]] = cut[spokes[(i + 1) % 4]];
            }
        }
        return make(x, t, halved(cut, l - 2), halved(onto, l - 2));
    }

    /** The leaves at i and behind it are one, as their halves are. */
    private static int[][] halved(int[][] cut, int i) {
        int[][] one = {{cut[i][0] - 1, cut[i][1] / 2}};
        return join(Arrays.copyOf(cut, i), one, Arrays.copyOfRange(cut, i + 2, cut.length));
    }
}
