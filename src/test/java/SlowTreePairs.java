import java.math.BigInteger;
import java.util.ArrayList;
import java.util.HashMap;
import java.util.HashSet;
import java.util.List;
import java.util.Map;
import java.util.Set;
import java.util.TreeMap;

/**
 * What the document asks, written slowly and in another way, so that the two err apart: a leaf is the
 * text of the turns to it (0 left, 1 right), a map a sorted table from texts to texts.
 */
final class SlowTreePairs {
    private static final int UNKNOWN = -101, OUTSIDE = -102, STATE = -103, FULL = -104;
    private static final Map<TreeMap<String, String>, Integer> NEAR = near();

    private final List<TreeMap<String, String>> maps = new ArrayList<>();
    private final List<String[]> hand = new ArrayList<>();
    private String seenPath = "";

    SlowTreePairs() {
        for (int t = 0; t < 12; t++) {
            maps.add(null);
        }
    }

    int pair(int d, int c, int e, int b) {
        if (d < 0 || d > 23 || e < 0 || e > 23 || c < 0 || b < 0) {
            return OUTSIDE;
        }
        if (c >= Math.pow(2, d) || b >= Math.pow(2, e)) {
            return OUTSIDE;
        }
        if (hand.size() == 24) {
            return FULL;
        }
        hand.add(new String[] {path(d, c), path(e, b)});
        return hand.size();
    }

    int clear() {
        int were = hand.size();
        hand.clear();
        return were;
    }

    int make(int t) {
        if (t < 0 || t > 11) {
            return UNKNOWN;
        }
        if (!cut(0) || !cut(1)) {
            return STATE;
        }
        TreeMap<String, String> m = new TreeMap<>();
        for (String[] p : hand) {
            m.put(p[0], p[1]);
        }
        hand.clear();
        reduce(m);
        maps.set(t, m);
        return m.size();
    }

    int strong(int t, int i) {
        if (t < 0 || t > 11) {
            return UNKNOWN;
        }
        if (i < 0 || i > 6) {
            return OUTSIDE;
        }
        maps.set(t, strongOne(i));
        return maps.get(t).size();
    }

    int then(int t, int a, int b) {
        if (t < 0 || t > 11 || !there(a) || !there(b)) {
            return UNKNOWN;
        }
        return keep(t, behind(maps.get(a), maps.get(b)));
    }

    int turn(int t, int a) {
        if (t < 0 || t > 11 || !there(a)) {
            return UNKNOWN;
        }
        return keep(t, turned(maps.get(a)));
    }

    int power(int t, int a, int k) {
        if (t < 0 || t > 11 || !there(a)) {
            return UNKNOWN;
        }
        if (k < -12 || k > 12) {
            return OUTSIDE;
        }
        TreeMap<String, String> base = k < 0 ? turned(maps.get(a)) : maps.get(a);
        TreeMap<String, String> all = nothing();
        for (int n = 0; n < Math.abs(k); n++) {
            all = behind(base, all);
            if (all.size() > 24) {
                return FULL;
            }
        }
        return keep(t, all);
    }

    int drop(int a) {
        int were = leaves(a);
        if (were > 0) {
            maps.set(a, null);
        }
        return were;
    }

    int leaves(int a) {
        return there(a) ? maps.get(a).size() : UNKNOWN;
    }

    int sort(int a) {
        if (!there(a)) {
            return UNKNOWN;
        }
        List<String> reached = new ArrayList<>(maps.get(a).values());
        List<String> inOrder = new ArrayList<>(turned(maps.get(a)).keySet());
        for (int by = 0; by < inOrder.size(); by++) {
            if (reached.equals(inOrder)) {
                return by == 0 ? 0 : 1;
            }
            inOrder.add(inOrder.remove(0));
        }
        return 2;
    }

    int leaf(int a, int i, int what) {
        if (!there(a) || i < 0 || i >= maps.get(a).size()) {
            return UNKNOWN;
        }
        if (what < 0 || what > 3) {
            return OUTSIDE;
        }
        String[] p = nth(a, i);
        String one = p[what / 2];
        return what % 2 == 0 ? one.length() : (int) number(one);
    }

    int same(int a, int b) {
        if (!there(a) || !there(b)) {
            return UNKNOWN;
        }
        return maps.get(a).equals(maps.get(b)) ? 1 : 0;
    }

    int commute(int a, int b) {
        if (!there(a) || !there(b)) {
            return UNKNOWN;
        }
        TreeMap<String, String> ab = behind(maps.get(a), maps.get(b));
        TreeMap<String, String> ba = behind(maps.get(b), maps.get(a));
        if (ab.size() > 24 || ba.size() > 24) {
            return FULL;
        }
        return ab.equals(ba) ? 1 : 0;
    }

    int order(int a) {
        if (!there(a)) {
            return UNKNOWN;
        }
        TreeMap<String, String> all = maps.get(a);
        int k = 1;
        while (k < 40 && all.size() <= 24 && !all.equals(nothing())) {
            all = behind(maps.get(a), all);
            k++;
        }
        return all.equals(nothing()) ? k : 0;
    }

    int length(int a) {
        return there(a) ? NEAR.getOrDefault(maps.get(a), -1) : UNKNOWN;
    }

    int ball(int k) {
        if (k < 0 || k > 4) {
            return OUTSIDE;
        }
        int many = 0;
        for (int length : NEAR.values()) {
            many += length == k ? 1 : 0;
        }
        return many;
    }

    int go(int a, int d, long c) {
        if (!there(a)) {
            return UNKNOWN;
        }
        if (d < 0 || d > 30 || c < 0 || c >= Math.pow(2, d)) {
            return OUTSIDE;
        }
        StringBuilder from = new StringBuilder(path(d, c));
        while (from.length() < 80) {
            from.append('0');
        }
        for (Map.Entry<String, String> p : maps.get(a).entrySet()) {
            if (from.indexOf(p.getKey()) == 0) {
                seenPath = (p.getValue() + from.substring(p.getKey().length())).replaceAll("0*$", "");
                break;
            }
        }
        return 1;
    }

    long seen(int what) {
        return what == 0 ? seenPath.length() : what == 1 ? number(seenPath) : OUTSIDE;
    }

    int bend(int a, int i) {
        if (!there(a) || i < 0 || i >= maps.get(a).size()) {
            return -1000;
        }
        String[] here = nth(a, i);
        String[] ahead = i == 0 ? new String[] {"", ""} : nth(a, i - 1);
        return here[0].length() - here[1].length() - ahead[0].length() + ahead[1].length();
    }

    int still(int a) {
        if (!there(a)) {
            return UNKNOWN;
        }
        int many = 0;
        for (Map.Entry<String, String> p : maps.get(a).entrySet()) {
            many += p.getKey().equals(p.getValue()) ? 1 : 0;
        }
        return many;
    }

    int single(int a) {
        return there(a) ? singles(a).size() : UNKNOWN;
    }

    long point(int a, int k, int part) {
        if (!there(a)) {
            return UNKNOWN;
        }
        if (part != 0 && part != 1) {
            return OUTSIDE;
        }
        List<BigInteger[]> all = singles(a);
        return k >= 0 && k < all.size() ? all.get(k)[part].longValueExact() : -1;
    }

    int count(int what) {
        if (what == 1) {
            return hand.size();
        }
        if (what < 0 || what > 4) {
            return OUTSIDE;
        }
        int many = 0;
        for (int a = 0; a < 12; a++) {
            many += there(a) && (what == 0 || sort(a) == what - 2) ? 1 : 0;
        }
        return many;
    }

    long digest() {
        List<Long> told = new ArrayList<>();
        for (int a = 0; a < 12; a++) {
            told.add(there(a) ? (long) leaves(a) : -1L);
            for (int i = 0; there(a) && i < leaves(a); i++) {
                for (int what = 0; what < 4; what++) {
                    told.add((long) leaf(a, i, what));
                }
            }
        }
        for (String[] p : hand) {
            for (String one : p) {
                told.add((long) one.length());
                told.add(number(one));
            }
        }
        told.add(seen(0));
        told.add(seen(1));
        long h = 167;
        for (long it : told) {
            h = h * 31 + it;
        }
        return h;
    }

    /** A point stays still in u onto v only if the one goes on from the other by w: there it is the shorter one, w, w, .. */
    private List<BigInteger[]> singles(int a) {
        List<BigInteger[]> all = new ArrayList<>();
        for (Map.Entry<String, String> p : maps.get(a).entrySet()) {
            String u = p.getKey();
            String v = p.getValue();
            String shorter = u.length() < v.length() ? u : v;
            String w = (u.length() < v.length() ? v : u).substring(shorter.length());
            if (u.equals(v) || !(u.startsWith(v) || v.startsWith(u)) || w.matches("1*")) {
                continue;
            }
            BigInteger round = BigInteger.ONE.shiftLeft(w.length()).subtract(BigInteger.ONE);
            BigInteger above = BigInteger.valueOf(number(shorter)).multiply(round).add(BigInteger.valueOf(number(w)));
            BigInteger below = round.shiftLeft(shorter.length());
            BigInteger shared = above.gcd(below);
            all.add(new BigInteger[] {above.divide(shared), below.divide(shared)});
        }
        return all;
    }

    private boolean there(int a) {
        return a >= 0 && a <= 11 && maps.get(a) != null;
    }

    private int keep(int t, TreeMap<String, String> m) {
        if (m.size() > 24) {
            return FULL;
        }
        maps.set(t, m);
        return m.size();
    }

    private String[] nth(int a, int i) {
        String key = new ArrayList<>(maps.get(a).keySet()).get(i);
        return new String[] {key, maps.get(a).get(key)};
    }

    private boolean cut(int side) {
        BigInteger whole = BigInteger.ZERO;
        for (int i = 0; i < hand.size(); i++) {
            for (int j = 0; j < hand.size(); j++) {
                if (i != j && hand.get(i)[side].startsWith(hand.get(j)[side])) {
                    return false;
                }
            }
            whole = whole.add(BigInteger.ONE.shiftLeft(40 - hand.get(i)[side].length()));
        }
        return whole.equals(BigInteger.ONE.shiftLeft(40));
    }

    private static String path(int d, long c) {
        StringBuilder turns = new StringBuilder();
        for (int i = d - 1; i >= 0; i--) {
            turns.append((c >> i) & 1);
        }
        return turns.toString();
    }

    private static long number(String path) {
        return path.isEmpty() ? 0 : new BigInteger(path, 2).longValueExact();
    }

    private static TreeMap<String, String> nothing() {
        TreeMap<String, String> m = new TreeMap<>();
        m.put("", "");
        return m;
    }

    private static TreeMap<String, String> turned(TreeMap<String, String> m) {
        TreeMap<String, String> back = new TreeMap<>();
        m.forEach((u, v) -> back.put(v, u));
        return back;
    }

    private static TreeMap<String, String> behind(TreeMap<String, String> a, TreeMap<String, String> b) {
        TreeMap<String, String> m = new TreeMap<>();
        a.forEach((u, v) -> b.forEach((w, z) -> {
            if (v.startsWith(w)) {
                m.put(u, z + v.substring(w.length()));
            } else if (w.startsWith(v)) {
                m.put(u + w.substring(v.length()), z);
            }
        }));
        reduce(m);
        return m;
    }

    private static void reduce(TreeMap<String, String> m) {
        boolean again = true;
        while (again) {
            again = false;
            for (String u : new ArrayList<>(m.keySet())) {
                String v = m.get(u);
                if (v == null || !u.endsWith("0") || !v.endsWith("0")) {
                    continue;
                }
                String up = u.substring(0, u.length() - 1);
                String vp = v.substring(0, v.length() - 1);
                if ((vp + "1").equals(m.get(up + "1"))) {
                    m.remove(u);
                    m.remove(up + "1");
                    m.put(up, vp);
                    again = true;
                }
            }
        }
    }

    private static TreeMap<String, String> strongOne(int i) {
        TreeMap<String, String> m = new TreeMap<>();
        String s = "";
        for (int n = 0; n < i; n++) {
            m.put(s + "0", s + "0");
            s += "1";
        }
        m.put(s + "0", s + "00");
        m.put(s + "10", s + "01");
        m.put(s + "11", s + "1");
        return m;
    }

    /** Every word of 0 to 4, the shorter ones first. */
    private static Map<TreeMap<String, String>, Integer> near() {
        List<TreeMap<String, String>> steps = List.of(strongOne(0), strongOne(1), turned(strongOne(0)), turned(strongOne(1)));
        Map<TreeMap<String, String>, Integer> found = new HashMap<>();
        Set<TreeMap<String, String>> words = new HashSet<>(List.of(nothing()));
        for (int k = 0; k <= 4; k++) {
            Set<TreeMap<String, String>> longer = new HashSet<>();
            for (TreeMap<String, String> word : words) {
                found.putIfAbsent(word, k);
                for (TreeMap<String, String> step : steps) {
                    longer.add(behind(step, word));
                }
            }
            words = longer;
        }
        return found;
    }
}
