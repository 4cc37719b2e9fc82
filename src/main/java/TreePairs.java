import java.util.ArrayList;
import java.util.List;

/** Maps of the line from 0 to 1 told by two trees; what each call promises stands in DOC.md. */
public final class TreePairs {
    public static final int NONE = -1, UNKNOWN = -101, OUTSIDE = -102, STATE = -103, FULL = -104;

    private static final int NO_BEND = -1000;
    private static final long NO_POINT = -1;
    private static final int MAPS = 12;
    private static final int MOST_PAIRS = 24;
    /** Two maps of 24 leaves cut one another into at most 47 stretches. */
    private static final int MOST_PIECES = 48;
    /** A power of two, so that the steps down to 1 reach every one of the pieces. */
    private static final int WIDEST_STEP = 32;
    private static final int DEEPEST = 23;
    private static final int DEEPEST_POINT = 30;
    /** A point by 2^30 in a leaf of depth 0 may go into one of depth 23. */
    private static final int DEEPEST_SEEN = DEEPEST_POINT + DEEPEST;
    private static final int LAST_STRONG = 6;
    private static final int MOST_POWER = 12;
    private static final int MOST_ORDER = 40;
    private static final int LONGEST = 4;
    private static final int IN_ORDER = 0, ROUND = 1, ANYHOW = 2;

    /** A map that is not there has no pairs. */
    private final Pairs[] maps;
    private final Pairs hand;
    private int seenDepth;
    private long seenPlace;

    /** Rows that calls work in, made once, as all calls share one room. */
    private final Pairs made;
    private final Pairs raised;
    private final Pairs turned;
    /** Null until a call asks for a length, as many objects are never asked. */
    private Ball near;

    public TreePairs() {
        maps = new Pairs[MAPS];
        for (int t = 0; t < MAPS; t++) {
            maps[t] = new Pairs(MOST_PAIRS);
        }
        hand = new Pairs(MOST_PAIRS);
        made = new Pairs(MOST_PIECES);
        raised = new Pairs(MOST_PIECES);
        turned = new Pairs(MOST_PIECES);
    }

    // ---- the hand: pairs of leaves

    public int pair(int d, int c, int e, int b) {
        if (!isLeaf(d, c) || !isLeaf(e, b)) {
            return OUTSIDE;
        }
        if (hand.size >= MOST_PAIRS) {
            return FULL;
        }
        hand.add(d, c, e, b);
        return hand.size;
    }

    public int clear() {
        int were = hand.size;
        hand.size = 0;
        return were;
    }

    public int make(int t) {
        if (!isNumber(t)) {
            return UNKNOWN;
        }
        putTurned(hand, turned);
        if (!isCut(turned)) {
            return STATE;
        }
        // turned about twice, the pairs stand as told, but from left to right
        putTurned(turned, raised);
        if (!isCut(raised)) {
            return STATE;
        }
        hand.size = 0;
        putReduced(raised, maps[t]);
        return maps[t].size;
    }

    // ---- maps

    public int strong(int t, int i) {
        if (!isNumber(t)) {
            return UNKNOWN;
        }
        if (i < 0 || i > LAST_STRONG) {
            return OUTSIDE;
        }
        putStrong(i, maps[t]);
        return maps[t].size;
    }

    public int then(int t, int a, int b) {
        if (!isNumber(t) || !isThere(a) || !isThere(b)) {
            return UNKNOWN;
        }
        putBehind(maps[a], maps[b], made);
        if (made.size > MOST_PAIRS) {
            return FULL;
        }
        putCopy(made, maps[t]);
        return maps[t].size;
    }

    public int turn(int t, int a) {
        if (!isNumber(t) || !isThere(a)) {
            return UNKNOWN;
        }
        putTurned(maps[a], turned);
        putCopy(turned, maps[t]);
        return maps[t].size;
    }

    public int power(int t, int a, int k) {
        if (!isNumber(t) || !isThere(a)) {
            return UNKNOWN;
        }
        if (k < -MOST_POWER || k > MOST_POWER) {
            return OUTSIDE;
        }
        if (!isRaised(maps[a], k)) {
            return FULL;
        }
        putCopy(raised, maps[t]);
        return maps[t].size;
    }

    public int drop(int a) {
        if (!isThere(a)) {
            return UNKNOWN;
        }
        int were = maps[a].size;
        maps[a].size = 0;
        return were;
    }

    // ---- what they are

    public int leaves(int a) {
        return isThere(a) ? maps[a].size : UNKNOWN;
    }

    public int sort(int a) {
        return isThere(a) ? kindOf(maps[a]) : UNKNOWN;
    }

    public int leaf(int a, int i, int what) {
        if (!isThere(a) || i < 0 || i >= maps[a].size) {
            return UNKNOWN;
        }
        if (what < 0 || what > 3) {
            return OUTSIDE;
        }
        return (int) maps[a].told(i, what);
    }

    public int same(int a, int b) {
        if (!isThere(a) || !isThere(b)) {
            return UNKNOWN;
        }
        return areAlike(maps[a], maps[b]) ? 1 : 0;
    }

    public int commute(int a, int b) {
        if (!isThere(a) || !isThere(b)) {
            return UNKNOWN;
        }
        putBehind(maps[a], maps[b], raised);
        putBehind(maps[b], maps[a], made);
        if (raised.size > MOST_PAIRS || made.size > MOST_PAIRS) {
            return FULL;
        }
        return areAlike(raised, made) ? 1 : 0;
    }

    public int order(int a) {
        if (!isThere(a)) {
            return UNKNOWN;
        }
        raised.becomeNothing();
        for (int k = 1; k <= MOST_ORDER; k++) {
            if (!isOneMore(maps[a])) {
                return 0;
            }
            // reduced, so that one leaf is NOTHING
            if (raised.size == 1) {
                return k;
            }
        }
        return 0;
    }

    public int length(int a) {
        if (!isThere(a)) {
            return UNKNOWN;
        }
        Ball ball = nearOnes();
        int at = ball.placeOf(maps[a]);
        if (at < 0) {
            return NONE;
        }
        for (int k = 0; k <= LONGEST; k++) {
            if (at < ball.ends[k]) {
                return k;
            }
        }
        return NONE;
    }

    public int ball(int k) {
        if (k < 0 || k > LONGEST) {
            return OUTSIDE;
        }
        Ball ball = nearOnes();
        return k == 0 ? ball.ends[0] : ball.ends[k] - ball.ends[k - 1];
    }

    // ---- points

    public int go(int a, int d, long c) {
        if (!isThere(a)) {
            return UNKNOWN;
        }
        if (d < 0 || d > DEEPEST_POINT || c < 0 || c >= 1L << d) {
            return OUTSIDE;
        }
        Pairs map = maps[a];
        long fine = c << (DEEPEST_POINT - d);
        int i = map.holderOf(fine >> (DEEPEST_POINT - DEEPEST));
        int from = map.firstDepth[i];
        int onto = map.secondDepth[i];
        long past = fine - (map.firstPlace[i] << (DEEPEST_POINT - from));
        long start = map.secondPlace[i] << (DEEPEST_SEEN - onto);
        see(DEEPEST_SEEN, start + (past << (DEEPEST + from - onto)));
        return 1;
    }

    public long seen(int what) {
        if (what == 0) {
            return seenDepth;
        }
        return what == 1 ? seenPlace : OUTSIDE;
    }

    public int bend(int a, int i) {
        if (!isThere(a) || i < 0 || i >= maps[a].size) {
            return NO_BEND;
        }
        int here = maps[a].steepness(i);
        return i == 0 ? here : here - maps[a].steepness(i - 1);
    }

    public int still(int a) {
        if (!isThere(a)) {
            return UNKNOWN;
        }
        Pairs map = maps[a];
        int found = 0;
        for (int i = 0; i < map.size; i++) {
            if (map.firstDepth[i] == map.secondDepth[i] && map.firstPlace[i] == map.secondPlace[i]) {
                found++;
            }
        }
        return found;
    }

    public int single(int a) {
        if (!isThere(a)) {
            return UNKNOWN;
        }
        int found = 0;
        for (int i = 0; i < maps[a].size; i++) {
            if (hasSingle(maps[a], i)) {
                found++;
            }
        }
        return found;
    }

    public long point(int a, int k, int part) {
        if (!isThere(a)) {
            return UNKNOWN;
        }
        if (part < 0 || part > 1) {
            return OUTSIDE;
        }
        int ahead = 0;
        for (int i = 0; i < maps[a].size; i++) {
            if (hasSingle(maps[a], i)) {
                if (ahead == k) {
                    return partOfSingle(maps[a], i, part);
                }
                ahead++;
            }
        }
        return NO_POINT;
    }

    // ---- what is told

    public int count(int what) {
        switch (what) {
            case 0:
                return mapsOfKind(IN_ORDER) + mapsOfKind(ROUND) + mapsOfKind(ANYHOW);
            case 1:
                return hand.size;
            case 2:
                return mapsOfKind(IN_ORDER);
            case 3:
                return mapsOfKind(ROUND);
            case 4:
                return mapsOfKind(ANYHOW);
            default:
                return OUTSIDE;
        }
    }

    public long digest() {
        long h = 167;
        for (int t = 0; t < MAPS; t++) {
            h = 31 * h + (isThere(t) ? maps[t].size : -1);
            h = mixedIn(h, maps[t]);
        }
        h = mixedIn(h, hand);
        h = 31 * h + seenDepth;
        return 31 * h + seenPlace;
    }

    private static long mixedIn(long start, Pairs pairs) {
        long h = start;
        for (int i = 0; i < pairs.size; i++) {
            for (int what = 0; what < 4; what++) {
                h = 31 * h + pairs.told(i, what);
            }
        }
        return h;
    }

    private static boolean isLeaf(int d, int c) {
        return d >= 0 && d <= DEEPEST && c >= 0 && c < 1 << d;
    }

    private static boolean isNumber(int t) {
        return t >= 0 && t < MAPS;
    }

    private boolean isThere(int a) {
        return isNumber(a) && maps[a].size > 0;
    }

    private int mapsOfKind(int kind) {
        int found = 0;
        for (int t = 0; t < MAPS; t++) {
            if (isThere(t) && kindOf(maps[t]) == kind) {
                found++;
            }
        }
        return found;
    }

    private static int kindOf(Pairs map) {
        boolean inOrder = true;
        boolean round = true;
        for (int i = 1; i < map.size; i++) {
            long ahead = map.secondEnd(i - 1);
            long here = map.secondStart(i);
            inOrder = inOrder && here == ahead;
            round = round && here == (ahead == startOf(0, 1) ? 0 : ahead);
        }
        if (inOrder) {
            return IN_ORDER;
        }
        return round ? ROUND : ANYHOW;
    }

    /** Where a leaf starts, counted by 2^23. */
    private static long startOf(int d, long c) {
        return c << (DEEPEST - d);
    }

    /** Whether the first leaves of pairs that stand from left to right are a cut. */
    private static boolean isCut(Pairs pairs) {
        long reached = 0;
        for (int i = 0; i < pairs.size; i++) {
            if (pairs.firstStart(i) != reached) {
                return false;
            }
            reached = startOf(pairs.firstDepth[i], pairs.firstPlace[i] + 1);
        }
        return reached == startOf(0, 1);
    }

    private static boolean areAlike(Pairs a, Pairs b) {
        if (a.size != b.size) {
            return false;
        }
        for (int i = 0; i < a.size; i++) {
            for (int what = 0; what < 4; what++) {
                if (a.told(i, what) != b.told(i, what)) {
                    return false;
                }
            }
        }
        return true;
    }

    private static void putCopy(Pairs from, Pairs into) {
        into.size = 0;
        for (int i = 0; i < from.size; i++) {
            into.add(from.firstDepth[i], from.firstPlace[i], from.secondDepth[i], from.secondPlace[i]);
        }
    }

    private static void putReduced(Pairs from, Pairs into) {
        into.size = 0;
        for (int i = 0; i < from.size; i++) {
            into.push(from.firstDepth[i], from.firstPlace[i], from.secondDepth[i], from.secondPlace[i]);
        }
    }

    private static void putTurned(Pairs from, Pairs into) {
        into.size = 0;
        for (int i = 0; i < from.size; i++) {
            into.add(from.secondDepth[i], from.secondPlace[i], from.firstDepth[i], from.firstPlace[i]);
            into.sinkLast();
        }
    }

    private static void putStrong(int i, Pairs into) {
        into.size = 0;
        for (int d = 1; d <= i; d++) {
            long left = (1L << d) - 2;
            into.add(d, left, d, left);
        }
        long c = (1L << i) - 1;
        into.add(i + 1, 2 * c, i + 2, 4 * c);
        into.add(i + 2, 4 * c + 2, i + 2, 4 * c + 1);
        into.add(i + 2, 4 * c + 3, i + 1, 2 * c + 1);
    }

    private static void putBehind(Pairs first, Pairs next, Pairs into) {
        into.size = 0;
        for (int i = 0; i < first.size; i++) {
            long end = first.secondEnd(i);
            int from = next.holderOf(first.secondStart(i));
            for (int j = from; j < next.size && next.firstStart(j) < end; j++) {
                putPiece(first, i, next, j, into);
            }
        }
    }

    /** Of two leaves that share points, one lies in the other: the larger one is cut down to it. */
    private static void putPiece(Pairs first, int i, Pairs next, int j, Pairs into) {
        int deeper = next.firstDepth[j] - first.secondDepth[i];
        if (deeper >= 0) {
            long past = next.firstPlace[j] - (first.secondPlace[i] << deeper);
            into.push(first.firstDepth[i] + deeper, (first.firstPlace[i] << deeper) + past,
                    next.secondDepth[j], next.secondPlace[j]);
        } else {
            long past = first.secondPlace[i] - (next.firstPlace[j] << -deeper);
            into.push(first.firstDepth[i], first.firstPlace[i],
                    next.secondDepth[j] - deeper, (next.secondPlace[j] << -deeper) + past);
        }
    }

    /** Makes raised POWER k of a map; false if one on the way is too large. */
    private boolean isRaised(Pairs map, int k) {
        Pairs base = map;
        if (k < 0) {
            putTurned(map, turned);
            base = turned;
        }
        raised.becomeNothing();
        int times = Math.abs(k);
        for (int n = 0; n < times; n++) {
            if (!isOneMore(base)) {
                return false;
            }
        }
        return true;
    }

    /** Puts a map behind what raised holds; false if that is too large. */
    private boolean isOneMore(Pairs base) {
        putBehind(raised, base, made);
        if (made.size > MOST_PAIRS) {
            return false;
        }
        putCopy(made, raised);
        return true;
    }

    private Ball nearOnes() {
        if (near == null) {
            near = grownBall();
        }
        return near;
    }

    private Ball grownBall() {
        Ball ball = new Ball();
        Pairs[] steps = stepsOfLength();
        raised.becomeNothing();
        ball.addNew(raised);
        ball.ends[0] = 1;
        int from = 0;
        for (int k = 1; k <= LONGEST; k++) {
            int to = ball.ends[k - 1];
            for (int i = from; i < to; i++) {
                for (int s = 0; s < steps.length; s++) {
                    putBehind(ball.found.get(i), steps[s], made);
                    ball.addNew(made);
                }
            }
            from = to;
            ball.ends[k] = ball.found.size();
        }
        return ball;
    }

    private static Pairs[] stepsOfLength() {
        Pairs[] steps = new Pairs[4];
        for (int i = 0; i < 2; i++) {
            steps[2 * i] = new Pairs(MOST_PAIRS);
            steps[2 * i + 1] = new Pairs(MOST_PAIRS);
            putStrong(i, steps[2 * i]);
            putTurned(steps[2 * i], steps[2 * i + 1]);
        }
        return steps;
    }

    private void see(int d, long c) {
        int depth = d;
        long place = c;
        for (; depth > 0 && place % 2 == 0; depth--) {
            place /= 2;
        }
        seenDepth = depth;
        seenPlace = place;
    }

    /**
     * x = b/2^e + (x - c/2^d) 2^(d-e) gives x = (b - c) / (2^e - 2^d); it counts only if the leaf
     * (d, c) holds it.
     */
    private static boolean hasSingle(Pairs map, int i) {
        int d = map.firstDepth[i];
        long c = map.firstPlace[i];
        if (d == map.secondDepth[i]) {
            return false;
        }
        long above = singleAbove(map, i) << d;
        long below = singleBelow(map, i);
        return above >= c * below && above < (c + 1) * below;
    }

    private static long singleAbove(Pairs map, int i) {
        long above = map.secondPlace[i] - map.firstPlace[i];
        return map.secondDepth[i] > map.firstDepth[i] ? above : -above;
    }

    private static long singleBelow(Pairs map, int i) {
        return Math.abs((1L << map.secondDepth[i]) - (1L << map.firstDepth[i]));
    }

    private static long partOfSingle(Pairs map, int i, int part) {
        long above = singleAbove(map, i);
        long below = singleBelow(map, i);
        long shared = commonOf(above, below);
        if (shared == 0) {
            return NO_POINT;
        }
        return (part == 0 ? above : below) / shared;
    }

    private static long commonOf(long a, long b) {
        long greater = a;
        long rest = b;
        // below 2^23 some 35 rounds suffice
        for (int n = 0; n < 100 && rest != 0; n++) {
            long over = greater % rest;
            greater = rest;
            rest = over;
        }
        return greater;
    }

    /** Pairs of leaves in rows: the i-th first leaf goes onto the i-th second one. */
    private static final class Pairs {
        final int[] firstDepth;
        final long[] firstPlace;
        final int[] secondDepth;
        final long[] secondPlace;
        int size;

        Pairs(int room) {
            int most = Math.max(0, room);
            firstDepth = new int[most];
            firstPlace = new long[most];
            secondDepth = new int[most];
            secondPlace = new long[most];
        }

        void becomeNothing() {
            size = 0;
            add(0, 0, 0, 0);
        }

        void add(int d, long c, int e, long b) {
            if (size >= firstDepth.length) {
                return;
            }
            firstDepth[size] = d;
            firstPlace[size] = c;
            secondDepth[size] = e;
            secondPlace[size] = b;
            size++;
        }

        /** Keeps pairs that come from left to right reduced. */
        void push(int d, long c, int e, long b) {
            add(d, c, e, b);
            while (size > 1 && areLastHalves()) {
                size--;
                firstDepth[size - 1]--;
                firstPlace[size - 1] /= 2;
                secondDepth[size - 1]--;
                secondPlace[size - 1] /= 2;
            }
        }

        private boolean areLastHalves() {
            int right = size - 1;
            int left = size - 2;
            return firstDepth[left] == firstDepth[right]
                    && secondDepth[left] == secondDepth[right]
                    && firstPlace[left] % 2 == 0 && firstPlace[left] + 1 == firstPlace[right]
                    && secondPlace[left] % 2 == 0 && secondPlace[left] + 1 == secondPlace[right];
        }

        /** Brings the last pair to where its first leaf stands from left to right. */
        void sinkLast() {
            for (int i = size - 1; i > 0 && firstStart(i) < firstStart(i - 1); i--) {
                exchange(firstDepth, i);
                exchange(firstPlace, i);
                exchange(secondDepth, i);
                exchange(secondPlace, i);
            }
        }

        private static void exchange(int[] row, int i) {
            int kept = row[i];
            row[i] = row[i - 1];
            row[i - 1] = kept;
        }

        private static void exchange(long[] row, int i) {
            long kept = row[i];
            row[i] = row[i - 1];
            row[i - 1] = kept;
        }

        long told(int i, int what) {
            switch (what) {
                case 0:
                    return firstDepth[i];
                case 1:
                    return firstPlace[i];
                case 2:
                    return secondDepth[i];
                default:
                    return secondPlace[i];
            }
        }

        int steepness(int i) {
            return firstDepth[i] - secondDepth[i];
        }

        long firstStart(int i) {
            return startOf(firstDepth[i], firstPlace[i]);
        }

        long secondStart(int i) {
            return startOf(secondDepth[i], secondPlace[i]);
        }

        long secondEnd(int i) {
            return startOf(secondDepth[i], secondPlace[i] + 1);
        }

        /** The last pair whose first leaf starts at a place or ahead of it, by steps of halving width. */
        int holderOf(long at) {
            int i = 0;
            for (int step = WIDEST_STEP; step > 0; step /= 2) {
                if (i + step < size && firstStart(i + step) <= at) {
                    i += step;
                }
            }
            return i;
        }
    }

    /** The maps of a LENGTH, the shortest ones first. */
    private static final class Ball {
        final List<Pairs> found;
        /** How many there are of a LENGTH up to the index. */
        final int[] ends;

        Ball() {
            found = new ArrayList<>();
            ends = new int[LONGEST + 1];
        }

        void addNew(Pairs map) {
            if (placeOf(map) < 0) {
                Pairs kept = new Pairs(map.size);
                putCopy(map, kept);
                found.add(kept);
            }
        }

        int placeOf(Pairs map) {
            for (int i = 0; i < found.size(); i++) {
                if (areAlike(found.get(i), map)) {
                    return i;
                }
            }
            return NONE;
        }
    }
}
