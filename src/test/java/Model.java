import java.math.BigInteger;
import java.util.ArrayDeque;
import java.util.ArrayList;
import java.util.Arrays;
import java.util.Collections;
import java.util.Comparator;
import java.util.HashSet;
import java.util.List;
import java.util.Set;
import java.util.TreeSet;

/** The document written a second time, slowly and with the Java library, to compare answers with. */
final class Model {
    record Coin(long bend, long x, long y) {
        long told(int what) {
            return what == 0 ? bend : what == 1 ? x : y;
        }

        int refusal() {
            if (bend == 0 || Math.abs(bend) > 20000) {
                return -15;
            }
            return Math.abs(x) > 50000 || Math.abs(y) > 50000 ? -16 : 0;
        }

        boolean touches(Coin c) {
            BigInteger across = big(c.bend * x - bend * c.x);
            BigInteger along = big(c.bend * y - bend * c.y);
            BigInteger both = big(bend + c.bend);
            return across.multiply(across).add(along.multiply(along)).equals(both.multiply(both));
        }

        /** The other coin that touches a, b, c, than this one. */
        Coin other(Coin a, Coin b, Coin c) {
            return new Coin(2 * (a.bend + b.bend + c.bend) - bend,
                2 * (a.x + b.x + c.x) - x, 2 * (a.y + b.y + c.y) - y);
        }

        private static BigInteger big(long v) {
            return BigInteger.valueOf(v);
        }
    }

    private static final Comparator<Coin> ORDER =
        Comparator.comparingLong(Coin::bend).thenComparingLong(Coin::x).thenComparingLong(Coin::y);

    private final Object[] bags = new Object[6];
    private final List<List<Coin>> quads = new ArrayList<>();
    private final List<Integer> froms = new ArrayList<>();
    private List<Coin> listed = List.of();
    private int listedTo = 0;
    private int listedQuad = -1;

    private static int length(Object bag) {
        return java.lang.reflect.Array.getLength(bag);
    }

    private static long place(Object bag, int i) {
        return ((Number) java.lang.reflect.Array.get(bag, i)).longValue();
    }

    int bag(int r, int kind, int n) {
        if (r < 0 || r > 5 || kind < -1 || kind > 2 || kind >= 0 && n > 24) {
            return -1;
        }
        if (kind >= 0 && n < 0) {
            return -13;
        }
        bags[r] = kind == 0 ? new short[n] : kind == 1 ? new int[n] : kind == 2 ? new long[n] : null;
        return 0;
    }

    private int refusal(int r, long i, long n) {
        if (r < 0 || r > 5) {
            return -1;
        }
        if (bags[r] == null) {
            return -11;
        }
        return i < 0 || i + n > length(bags[r]) ? -12 : 0;
    }

    int put(int r, int i, long v) {
        int refused = refusal(r, i, 1);
        if (refused == 0) {
            if (bags[r] instanceof short[] s) {
                s[i] = (short) v;
            } else if (bags[r] instanceof int[] w) {
                w[i] = (int) v;
            } else {
                ((long[]) bags[r])[i] = v;
            }
        }
        return refused;
    }

    int copy(int r, int i, int t, int j, int n) {
        if (r < 0 || r > 5 || t < 0 || t > 5) {
            return -1;
        }
        if (bags[r] == null || bags[t] == null) {
            return -11;
        }
        if (bags[r].getClass() != bags[t].getClass()) {
            return -14;
        }
        if (n < 0 || i < 0 || j < 0 || n > length(bags[r]) - i || n > length(bags[t]) - j) {
            return -12;
        }
        long[] moved = new long[n];
        for (int k = 0; k < n; k++) {
            moved[k] = place(bags[r], i + k);
        }
        for (int k = 0; k < n; k++) {
            put(t, j + k, moved[k]);
        }
        return 0;
    }

    int holds(int r, int i, long v) {
        int refused = refusal(r, i, 1);
        return refused != 0 ? refused : place(bags[r], i) == v ? 1 : 0;
    }

    int quad(int r, int i) {
        int refused = refusal(r, i, 12);
        if (refused != 0) {
            return refused;
        }
        List<Coin> coins = new ArrayList<>();
        for (int c = 0; c < 4; c++) {
            coins.add(new Coin(place(bags[r], i + c), place(bags[r], i + 4 + c), place(bags[r], i + 8 + c)));
        }
        for (int why : new int[] {-15, -16, -17, -18, -19, -20}) {
            if (isRefused(coins, why)) {
                return why;
            }
        }
        return add(coins, -3);
    }

    private static boolean isRefused(List<Coin> coins, int why) {
        long sum = 0;
        long squares = 0;
        long below = 0;
        long apart = 0;
        BigInteger divisor = BigInteger.ZERO;
        for (Coin c : coins) {
            boolean farBend = c.bend() < -20000 || c.bend() > 20000 || c.bend() == 0;
            if (why == -15 && farBend) {
                return true;
            }
            boolean farPlace = c.x() < -50000 || c.x() > 50000 || c.y() < -50000 || c.y() > 50000;
            if (why == -16 && farPlace) {
                return true;
            }
            sum += c.bend();
            squares += c.bend() * c.bend();
            below += c.bend() < 0 ? 1 : 0;
            divisor = divisor.gcd(BigInteger.valueOf(c.bend()));
            for (Coin d : coins) {
                apart += c != d && !c.touches(d) ? 1 : 0;
            }
        }
        return why == -17 && (2 * squares != sum * sum || sum <= 0) || why == -18 && below > 1
            || why == -19 && !divisor.equals(BigInteger.ONE) || why == -20 && apart > 0;
    }

    private int add(List<Coin> coins, int from) {
        if (quads.size() == 60) {
            return -2;
        }
        quads.add(coins);
        froms.add(from);
        return quads.size() - 1;
    }

    private static List<Coin> swapped(List<Coin> coins, int i) {
        List<Coin> made = new ArrayList<>(coins);
        Coin old = made.remove(i);
        made.add(i, old.other(made.get(0), made.get(1), made.get(2)));
        return made;
    }

    private boolean no(int q) {
        return q < 0 || q >= quads.size();
    }

    private static boolean noCoin(int i) {
        return i < 0 || i > 3;
    }

    private static boolean noWhat(int what) {
        return what < 0 || what > 2;
    }

    int swap(int q, int i) {
        if (no(q) || noCoin(i)) {
            return -1;
        }
        List<Coin> made = swapped(quads.get(q), i);
        int refused = made.get(i).refusal();
        return refused != 0 ? refused : add(made, q);
    }

    int coin(int q, int i, int what) {
        return no(q) || noCoin(i) || noWhat(what) ? -20000000 : (int) quads.get(q).get(i).told(what);
    }

    int from(int q) {
        return no(q) ? -1 : froms.get(q);
    }

    /** The fours on the way down, the quad itself first; the steps go to the list. */
    private List<Coin> down(int q, List<Integer> steps) {
        List<Coin> four = quads.get(q);
        while (true) {
            long top = four.stream().mapToLong(Coin::bend).max().getAsLong();
            int i = 0;
            while (four.get(i).bend() != top) {
                i++;
            }
            List<Coin> next = swapped(four, i);
            if (next.get(i).bend() >= top) {
                return four;
            }
            steps.add(i);
            four = next;
        }
    }

    private List<Coin> rootOf(int q) {
        return down(q, new ArrayList<>());
    }

    private List<Integer> stepsOf(int q) {
        List<Integer> steps = new ArrayList<>();
        down(q, steps);
        return steps;
    }

    int steps(int q) {
        return no(q) ? -1 : stepsOf(q).size();
    }

    int step(int q, int k) {
        if (no(q) || k < 0) {
            return -1;
        }
        return k < stepsOf(q).size() ? stepsOf(q).get(k) : -3;
    }

    int root(int q, int i, int what) {
        return no(q) || noCoin(i) || noWhat(what) ? -20000000 : (int) rootOf(q).get(i).told(what);
    }

    int same(int q, int r) {
        if (no(q) || no(r)) {
            return -1;
        }
        return Arrays.equals(sortedBends(rootOf(q)), sortedBends(rootOf(r))) ? 1 : 0;
    }

    private static long[] sortedBends(List<Coin> coins) {
        return coins.stream().mapToLong(Coin::bend).sorted().toArray();
    }

    int touch(int q, int i, int r, int j) {
        if (no(q) || no(r) || noCoin(i) || noCoin(j)) {
            return -1;
        }
        return quads.get(q).get(i).touches(quads.get(r).get(j)) ? 1 : 0;
    }

    int list(int q, int most) {
        if (no(q) || most < 1 || most > 2000) {
            return -1;
        }
        TreeSet<Coin> found = new TreeSet<>(ORDER);
        Set<List<Coin>> known = new HashSet<>();
        ArrayDeque<List<Coin>> open = new ArrayDeque<>();
        open.add(rootOf(q));
        known.add(rootOf(q));
        while (!open.isEmpty()) {
            List<Coin> four = open.remove();
            boolean below = true;
            for (Coin c : four) {
                below &= c.bend() <= most;
                if (c.bend() <= most) {
                    found.add(c);
                    if (c.refusal() != 0 || found.size() > 240) {
                        return -4;
                    }
                }
            }
            for (int i = 0; i < 4 && below; i++) {
                List<Coin> next = swapped(four, i);
                if (known.add(next)) {
                    open.add(next);
                }
            }
        }
        listed = new ArrayList<>(found);
        listedTo = most;
        listedQuad = q;
        return listed.size();
    }

    int listed(int i, int what) {
        if (noWhat(what)) {
            return -20000000;
        }
        return i < 0 || i >= listed.size() ? -20000001 : (int) listed.get(i).told(what);
    }

    int find(int bend) {
        return Collections.frequency(listed.stream().map(Coin::bend).toList(), (long) bend);
    }

    int left(int i) {
        if (i < 0) {
            return -1;
        }
        List<Integer> wholes = new ArrayList<>();
        for (int whole = 1; whole <= listedTo; whole++) {
            if ((seen(listedQuad) >> whole % 24 & 1) == 1 && find(whole) == 0) {
                wholes.add(whole);
            }
        }
        return i < wholes.size() ? wholes.get(i) : -3;
    }

    private int seenQuad = -1;
    private int seenOfIt = 0;

    int seen(int q) {
        if (no(q)) {
            return -1;
        }
        if (q == seenQuad) {
            return seenOfIt;
        }
        Set<List<Long>> fours = new HashSet<>();
        ArrayDeque<List<Long>> open = new ArrayDeque<>();
        List<Long> first = quads.get(q).stream().map(c -> Math.floorMod(c.bend(), 24L)).toList();
        open.add(first);
        fours.add(first);
        int seen = 0;
        while (!open.isEmpty()) {
            List<Long> four = open.remove();
            for (int i = 0; i < 4; i++) {
                seen |= 1 << four.get(i).intValue();
                long others = four.get(0) + four.get(1) + four.get(2) + four.get(3) - four.get(i);
                List<Long> next = new ArrayList<>(four);
                next.set(i, Math.floorMod(2 * others - four.get(i), 24L));
                if (fours.add(next)) {
                    open.add(next);
                }
            }
        }
        seenQuad = q;
        seenOfIt = seen;
        return seen;
    }

    int chain(int q, int i, int j, int k, int what) {
        if (no(q) || noCoin(i) || noCoin(j) || i == j || Math.abs((long) k) > 100 || noWhat(what)) {
            return -20000000;
        }
        List<Coin> four = quads.get(q);
        List<Coin> others = new ArrayList<>();
        for (int c = 0; c < 4; c++) {
            if (c != i && c != j) {
                others.add(four.get(c));
            }
        }
        Coin before = k >= 0 ? others.get(0) : others.get(1);
        Coin at = k >= 0 ? others.get(1) : others.get(0);
        if (k == 0) {
            return (int) others.get(0).told(what);
        }
        int far = k > 0 ? k - 1 : -k;
        for (int n = 0; n < far; n++) {
            Coin next = before.other(four.get(i), four.get(j), at);
            before = at;
            at = next;
            if (at.refusal() != 0) {
                return -20000002;
            }
        }
        return (int) at.told(what);
    }

    int count(int what) {
        return what == 0 ? quads.size() : what == 1 ? listed.size() : what == 2 ? listedTo : -1;
    }
}
