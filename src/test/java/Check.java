/** Counts the answers of a test that are not as due. */
final class Check {
    private int wrong = 0;
    private int asked = 0;

    void due(String call, long got, long want) {
        asked++;
        if (got != want) {
            wrong++;
            System.out.println(call + " answered " + got + ", due is " + want);
        }
    }

    void holds(String what, boolean stands) {
        due(what, stands ? 1 : 0, 1);
    }

    /** Puts pairs at hand, told as d, c, e, b one after the other. */
    static void put(TreePairs x, int... told) {
        for (int i = 0; i + 3 < told.length; i += 4) {
            x.pair(told[i], told[i + 1], told[i + 2], told[i + 3]);
        }
    }

    /** Whether map a has just the pairs told as d, c, e, b one after the other. */
    void map(String name, TreePairs x, int a, int... told) {
        due(name + ": leaves", x.leaves(a), told.length / 4);
        for (int i = 0; i < told.length; i++) {
            due(name + ": leaf(" + a + ", " + i / 4 + ", " + i % 4 + ")", x.leaf(a, i / 4, i % 4), told[i]);
        }
    }

    void end() {
        System.out.println(asked + " answers, " + wrong + " not as due");
        if (wrong != 0) {
            System.exit(1);
        }
    }
}
