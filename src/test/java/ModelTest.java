import java.util.ArrayList;
import java.util.Collections;
import java.util.List;
import java.util.Map;
import java.util.Random;
import java.util.TreeMap;

/** Long runs of calls, each answer beside that of the slow program. The seeds are written, so that a run comes again. */
final class ModelTest {
    private static final int RUNS = 400;
    private static final int CALLS = 512;
    private static final int[] ODD = {-1, 12, 13, 24, 31, Integer.MIN_VALUE, Integer.MAX_VALUE};

    private static final String[] OFTEN = {
        "pair", "pair -102", "pair -104", "clear", "make", "make -101", "make -103", "strong", "strong -101",
        "strong -102", "then", "then -101", "then -104", "turn", "turn -101", "power", "power -101",
        "power -102", "power -104", "drop", "drop -101", "leaves", "leaves -101", "sort", "sort -101", "leaf",
        "leaf -101", "leaf -102", "same", "same -101", "commute", "commute -101", "commute -104", "order",
        "order -101", "length", "length -101", "ball", "ball -102", "go", "go -101", "go -102", "seen",
        "seen -102", "bend", "still", "still -101", "single", "single -101", "point", "point -101",
        "point -102", "count", "count -102", "digest"};

    private static final Check check = new Check();
    /** How often each call was answered, and how often with each of the refusals. */
    private static final Map<String, Integer> tally = new TreeMap<>();

    private final Random random;
    private final int likes;
    private final TreePairs x = new TreePairs();
    private final SlowTreePairs slow = new SlowTreePairs();
    private int calls = 0;

    private ModelTest(long seed) {
        random = new Random(seed);
        likes = random.nextInt(4);
    }

    public static void main(String[] args) {
        for (int seed = 1; seed <= RUNS; seed++) {
            new ModelTest(seed).run(seed);
        }
        for (String due : OFTEN) {
            check.holds("often enough: " + due + ", " + tally.get(due), tally.getOrDefault(due, 0) >= 25);
        }
        if (args.length > 0) {
            System.out.println(tally);
        }
        check.end();
    }

    private void run(int seed) {
        while (calls < CALLS - 120) {
            if (random.nextInt(14) == 0) {
                told(seed);
            } else {
                one(seed, random.nextInt(24));
            }
            due(seed, "digest()", x.digest(), slow.digest());
        }
    }

    private void due(int seed, String call, long got, long want) {
        calls++;
        String name = call.substring(0, call.indexOf('('));
        tally.merge(want < -100 && want > -105 ? name + " " + want : name, 1, Integer::sum);
        check.due("run " + seed + ", call " + calls + ": " + call, got, want);
    }

    private int map() {
        return random.nextInt(40) == 0 ? odd() : random.nextInt(likes == 0 ? 12 : 6);
    }

    private int odd() {
        return ODD[random.nextInt(ODD.length)];
    }

    private int below(int n) {
        return random.nextInt(25) == 0 ? odd() : random.nextInt(n);
    }

    /** A map told leaf by leaf: in order, round, anyhow, and now and then one leaf wrong. */
    private void told(int seed) {
        int n = random.nextInt(3) == 0 ? 1 + random.nextInt(24) : 1 + random.nextInt(7);
        List<int[]> from = cut(n);
        List<int[]> onto = random.nextInt(4) == 0 ? new ArrayList<>(from) : cut(n);
        int how = random.nextInt(4);
        if (how == 1) {
            Collections.rotate(onto, random.nextInt(n));
        } else if (how > 1) {
            Collections.shuffle(onto, random);
        }
        List<Integer> turns = new ArrayList<>();
        for (int i = 0; i < n; i++) {
            turns.add(i);
        }
        Collections.shuffle(turns, random);
        int wrong = random.nextInt(6) == 0 ? random.nextInt(n) : -1;
        if (random.nextInt(8) != 0) {
            due(seed, "clear()", x.clear(), slow.clear());
        }
        for (int i : turns) {
            int[] u = from.get(i);
            int[] v = i == wrong ? from.get(random.nextInt(n)) : onto.get(i);
            due(seed, "pair()", x.pair(u[0], u[1], v[0], v[1]), slow.pair(u[0], u[1], v[0], v[1]));
        }
        int t = map();
        due(seed, "make(" + t + ")", x.make(t), slow.make(t));
    }

    private List<int[]> cut(int n) {
        List<int[]> all = new ArrayList<>();
        all.add(new int[] {0, 0});
        int deep = random.nextInt(3);
        while (all.size() < n) {
            int i = deep == 0 ? all.size() - 1 : deep == 1 ? 0 : random.nextInt(all.size());
            if (random.nextInt(5) == 0) {
                i = random.nextInt(all.size());
            }
            int[] u = all.remove(i);
            all.add(i, new int[] {u[0] + 1, 2 * u[1] + 1});
            all.add(i, new int[] {u[0] + 1, 2 * u[1]});
        }
        return all;
    }

    private void one(int seed, int which) {
        if (which < 12) {
            changing(seed, which);
        } else {
            asking(seed, which);
        }
    }

    private void changing(int seed, int which) {
        int t = map();
        int a = map();
        int b = map();
        switch (which) {
            case 0 -> {
                int d = below(24);
                int c = d >= 0 && d < 24 ? below(1 << d) : odd();
                int e = below(24);
                int f = e >= 0 && e < 24 ? random.nextInt(9) == 0 ? 1 << e : below(1 << e) : odd();
                due(seed, "pair()", x.pair(d, c, e, f), slow.pair(d, c, e, f));
            }
            case 1 -> due(seed, "clear()", x.clear(), slow.clear());
            case 2 -> due(seed, "make(" + t + ")", x.make(t), slow.make(t));
            case 3, 4 -> {
                int i = below(7);
                due(seed, "strong(" + t + ", " + i + ")", x.strong(t, i), slow.strong(t, i));
            }
            case 5, 6, 7 -> due(seed, "then(" + t + ", " + a + ", " + b + ")", x.then(t, a, b), slow.then(t, a, b));
            case 8 -> due(seed, "turn(" + t + ", " + a + ")", x.turn(t, a), slow.turn(t, a));
            case 9 -> {
                int k = below(likes == 1 ? 27 : 9) - (likes == 1 ? 13 : 4);
                due(seed, "power(" + t + ", " + a + ", " + k + ")", x.power(t, a, k), slow.power(t, a, k));
            }
            case 10 -> {
                if (random.nextInt(3) == 0) {
                    due(seed, "drop(" + a + ")", x.drop(a), slow.drop(a));
                }
            }
            default -> {
                int d = below(31);
                long c = d >= 0 && d < 31 ? random.nextInt(20) == 0 ? 1L << d : random.nextLong(1L << d) : random.nextLong();
                due(seed, "go(" + a + ", " + d + ", " + c + ")", x.go(a, d, c), slow.go(a, d, c));
            }
        }
    }

    private void asking(int seed, int which) {
        int a = map();
        int b = map();
        int i = below(random.nextBoolean() ? 4 : 24);
        int what = below(5);
        String of = "(" + a + ", " + i + ", " + what + ")";
        switch (which) {
            case 12 -> due(seed, "leaves(" + a + ")", x.leaves(a), slow.leaves(a));
            case 13 -> due(seed, "sort(" + a + ")", x.sort(a), slow.sort(a));
            case 14 -> due(seed, "leaf" + of, x.leaf(a, i, what), slow.leaf(a, i, what));
            case 15 -> due(seed, "same(" + a + ", " + b + ")", x.same(a, b), slow.same(a, b));
            case 16 -> due(seed, "commute(" + a + ", " + b + ")", x.commute(a, b), slow.commute(a, b));
            case 17 -> due(seed, "order(" + a + ")", x.order(a), slow.order(a));
            case 18 -> due(seed, "length(" + a + ")", x.length(a), slow.length(a));
            case 19 -> due(seed, "ball(" + what + ")", x.ball(what), slow.ball(what));
            case 20 -> due(seed, "bend(" + a + ", " + i + ")", x.bend(a, i), slow.bend(a, i));
            case 21 -> due(seed, "still(" + a + ")", x.still(a), slow.still(a));
            case 22 -> {
                due(seed, "single(" + a + ")", x.single(a), slow.single(a));
                due(seed, "point" + of, x.point(a, i % 3, what % 3), slow.point(a, i % 3, what % 3));
            }
            default -> {
                due(seed, "count(" + what + ")", x.count(what), slow.count(what));
                due(seed, "seen(" + what + ")", x.seen(what), slow.seen(what));
            }
        }
    }
}
