import java.util.function.LongSupplier;

/** Counts the answers of a test that are not as due. */
final class Check {
    private int wrong = 0;
    private int asked = 0;
    private String sentence = "";

    /** The sentence of the document that the next calls hold; it is printed with each that is not as due. */
    void about(String told) {
        sentence = told + " | ";
    }

    void due(String call, long got, long want) {
        asked++;
        if (got != want) {
            wrong++;
            System.out.println(sentence + call + " answered " + got + ", due is " + want);
        }
    }

    void holds(String what, boolean stands) {
        due(what, stands ? 1 : 0, 1);
    }

    /** The call answers as due, and the object tells of itself what it told before: it was refused, or asks only. */
    void stays(String call, TreePairs x, LongSupplier made, long want) {
        String before = told(x);
        due(call, made.getAsLong(), want);
        holds(call + " changes nothing", told(x).equals(before));
    }

    /** All that an object tells of itself. */
    private static String told(TreePairs x) {
        StringBuilder all = new StringBuilder();
        for (int a = 0; a < 12; a++) {
            all.append('\n').append(x.leaves(a));
            for (int i = 0; i < x.leaves(a); i++) {
                for (int what = 0; what < 4; what++) {
                    all.append(' ').append(x.leaf(a, i, what));
                }
            }
        }
        for (int what = 0; what < 5; what++) {
            all.append(' ').append(x.count(what));
        }
        all.append(' ').append(x.seen(0)).append(' ').append(x.seen(1));
        // pairs at hand show in the digest alone
        return all.append(' ').append(x.digest()).toString();
    }

    /** Puts pairs at hand, told as d, c, e, b one after the other. */
    static void put(TreePairs x, int... told) {
        for (int i = 0; i + 3 < told.length; i += 4) {
            x.pair(told[i], told[i + 1], told[i + 2], told[i + 3]);
        }
    }

    /** Whether map a has just the pairs told as d, c, e, b one after the other. */
    void map(String name, TreePairs x, int a, int... told) {
        due(name + ": leaves", x.leaves(a), told.length / 4);
        for (int i = 0; i < told.length; i++) {
            due(name + ": leaf(" + a + ", " + i / 4 + ", " + i % 4 + ")", x.leaf(a, i / 4, i % 4), told[i]);
        }
    }

    void end() {
        System.out.println(asked + " answers, " + wrong + " not as due");
        if (wrong != 0) {
            System.exit(1);
        }
    }
}
