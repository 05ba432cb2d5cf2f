import java.util.Arrays;

/**
 * A bench for nests of coins that touch: bags of numbers, fours of coins read out of them, swaps of
 * one coin, the root that a four comes from, and the nest of all coins that come from that root.
 *
 * No call makes an object: all rows are made with the bench and used again.
 */
public final class TouchingCoins {
    public static final int BAD = -1, FULL = -2, NONE = -3, MANY = -4;

    private static final int REFUSED_NULL = -11;
    private static final int REFUSED_INDEX = -12;
    private static final int REFUSED_SIZE = -13;
    private static final int REFUSED_STORE = -14;
    private static final int REFUSED_BEND = -15;
    private static final int REFUSED_PLACE = -16;
    private static final int REFUSED_SUM = -17;
    private static final int REFUSED_OUTER = -18;
    private static final int REFUSED_DIVISOR = -19;
    private static final int REFUSED_TOUCH = -20;

    private static final int BAD_COIN = -20000000;
    private static final int NO_COIN = -20000001;
    private static final int COIN_BEYOND = -20000002;

    private static final int BAGS = 6;
    private static final int BAG_PLACES = 24;
    private static final int MISSING = -1;
    private static final int SHORTS = 0;
    private static final int INTS = 1;
    private static final int LONGS = 2;

    private static final int QUADS = 60;
    private static final int MOST_BEND = 20000;
    private static final int MOST_PLACE = 50000;
    private static final int BEND = 0;
    private static final int X = 1;
    private static final int Y = 2;

    // Each step makes the sum of bends less, which is 80000 at most to begin with and stays above 0.
    private static final int MOST_STEPS = 100000;

    // Euclid's divisions of two wholes up to 20000 are some twenty at most.
    private static final int MOST_DIVISIONS = 100;

    private static final int LISTED = 240;
    private static final int MOST_LISTED_BEND = 2000;
    private static final int MOST_LINK = 100;

    private static final int MODULUS = 24;
    // No four numbers by 24, whichever they are, have more than this many fours that swaps make.
    private static final int REMAINDER_FOURS = 3840;

    private final Bag[] bags = new Bag[BAGS];
    private final Quad[] quads = new Quad[QUADS];
    private int quadCount = 0;
    private final Four desk = new Four();
    private final Remainders remainders = new Remainders();
    private final NestSearch search = new NestSearch();
    private Listing listing = new Listing();
    private Listing draft = new Listing();

    public TouchingCoins() {
        for (int r = 0; r < BAGS; r++) {
            bags[r] = new Bag();
        }
        for (int q = 0; q < QUADS; q++) {
            quads[q] = new Quad();
        }
    }

    // ---- bags

    public int bag(int r, int kind, int n) {
        if (!isBag(r) || kind < MISSING || kind > LONGS) {
            return BAD;
        }
        if (kind == MISSING) {
            bags[r].become(MISSING, 0);
            return 0;
        }
        if (n > BAG_PLACES) {
            return BAD;
        }
        if (n < 0) {
            return REFUSED_SIZE;
        }
        bags[r].become(kind, n);
        return 0;
    }

    public int put(int r, int i, long v) {
        int refused = refusalOfPlaces(r, i, 1);
        if (refused != 0) {
            return refused;
        }
        bags[r].keep(i, v);
        return 0;
    }

    public int copy(int r, int i, int t, int j, int n) {
        if (!isBag(r) || !isBag(t)) {
            return BAD;
        }
        Bag source = bags[r];
        Bag target = bags[t];
        if (source.kind == MISSING || target.kind == MISSING) {
            return REFUSED_NULL;
        }
        if (source.kind != target.kind) {
            return REFUSED_STORE;
        }
        if (!source.hasPlaces(i, n) || !target.hasPlaces(j, n)) {
            return REFUSED_INDEX;
        }
        System.arraycopy(source.places, i, target.places, j, n);
        return 0;
    }

    public int holds(int r, int i, long v) {
        int refused = refusalOfPlaces(r, i, 1);
        if (refused != 0) {
            return refused;
        }
        return bags[r].places[i] == v ? 1 : 0;
    }

    // ---- quads

    public int quad(int r, int i) {
        int refused = refusalOfPlaces(r, i, Four.SIZE);
        if (refused != 0) {
            return refused;
        }
        System.arraycopy(bags[r].places, i, desk.row, 0, Four.SIZE);
        refused = desk.refusal();
        if (refused != 0) {
            return refused;
        }
        if (quadCount >= QUADS) {
            return FULL;
        }
        return keepDesk(NONE, remainders.gather(desk));
    }

    public int swap(int q, int i) {
        if (!isQuad(q) || !isCoin(i)) {
            return BAD;
        }
        desk.take(quads[q].coins);
        desk.turn(i);
        int refused = desk.refusalOfCoin(i);
        if (refused != 0) {
            return refused;
        }
        if (quadCount >= QUADS) {
            return FULL;
        }
        return keepDesk(q, quads[q].seen);
    }

    public int coin(int q, int i, int what) {
        if (!isQuad(q) || !isCoin(i) || !isWhat(what)) {
            return BAD_COIN;
        }
        return (int) quads[q].coins.told(i, what);
    }

    public int from(int q) {
        return isQuad(q) ? quads[q].from : BAD;
    }

    public int steps(int q) {
        return isQuad(q) ? quads[q].steps : BAD;
    }

    public int step(int q, int k) {
        if (!isQuad(q) || k < 0) {
            return BAD;
        }
        if (k >= quads[q].steps) {
            return NONE;
        }
        desk.take(quads[q].coins);
        desk.goDown(k);
        return desk.greatest();
    }

    public int root(int q, int i, int what) {
        if (!isQuad(q) || !isCoin(i) || !isWhat(what)) {
            return BAD_COIN;
        }
        return (int) quads[q].root.told(i, what);
    }

    public int same(int q, int r) {
        if (!isQuad(q) || !isQuad(r)) {
            return BAD;
        }
        return quads[q].root.hasBendsOf(quads[r].root) ? 1 : 0;
    }

    public int touch(int q, int i, int r, int j) {
        if (!isQuad(q) || !isCoin(i) || !isQuad(r) || !isCoin(j)) {
            return BAD;
        }
        return quads[q].coins.touches(i, quads[r].coins, j) ? 1 : 0;
    }

    // ---- nests

    public int list(int q, int most) {
        if (!isQuad(q) || most < 1 || most > MOST_LISTED_BEND) {
            return BAD;
        }
        draft.begin(most, quads[q].seen);
        if (!search.gather(quads[q].root, draft)) {
            return MANY;
        }
        Listing old = listing;
        listing = draft;
        draft = old;
        return listing.size;
    }

    public int listed(int i, int what) {
        if (!isWhat(what)) {
            return BAD_COIN;
        }
        if (i < 0 || i >= listing.size) {
            return NO_COIN;
        }
        return (int) listing.rows[what][i];
    }

    public int find(int bend) {
        int found = 0;
        for (int i = 0; i < listing.size; i++) {
            if (listing.rows[BEND][i] == bend) {
                found++;
            }
        }
        return found;
    }

    public int left(int i) {
        return i < 0 ? BAD : listing.bendLeft(i);
    }

    public int seen(int q) {
        return isQuad(q) ? quads[q].seen : BAD;
    }

    public int chain(int q, int i, int j, int k, int what) {
        if (!isQuad(q) || !isCoin(i) || !isCoin(j) || i == j) {
            return BAD_COIN;
        }
        if (k < -MOST_LINK || k > MOST_LINK || !isWhat(what)) {
            return BAD_COIN;
        }
        int even = firstBut(i, j);
        int odd = 6 - i - j - even;
        desk.take(quads[q].coins);
        if (!desk.goAlong(even, odd, k)) {
            return COIN_BEYOND;
        }
        return (int) desk.told((k & 1) == 0 ? even : odd, what);
    }

    public int count(int what) {
        switch (what) {
            case 0:
                return quadCount;
            case 1:
                return listing.size;
            case 2:
                return listing.most;
            default:
                return BAD;
        }
    }

    // ---- what the calls share

    private static boolean isBag(int r) {
        return r >= 0 && r < BAGS;
    }

    private boolean isQuad(int q) {
        return q >= 0 && q < quadCount;
    }

    private static boolean isCoin(int i) {
        return i >= 0 && i < Four.COINS;
    }

    private static boolean isWhat(int what) {
        return what >= BEND && what <= Y;
    }

    /** What refuses n places of bag r from i on, or 0. */
    private int refusalOfPlaces(int r, int i, int n) {
        if (!isBag(r)) {
            return BAD;
        }
        if (bags[r].kind == MISSING) {
            return REFUSED_NULL;
        }
        return bags[r].hasPlaces(i, n) ? 0 : REFUSED_INDEX;
    }

    /** Makes the four on the desk the next quad; there is room for it. */
    private int keepDesk(int from, int seen) {
        quads[quadCount].become(desk, from, seen);
        quadCount++;
        return quadCount - 1;
    }

    /** The least number of a coin that is neither i nor j. */
    private static int firstBut(int i, int j) {
        for (int c = 0; c < 2; c++) {
            if (c != i && c != j) {
                return c;
            }
        }
        return 2;
    }

    /** A row of shorts, ints or longs, or nothing (kind MISSING). */
    private static final class Bag {
        final long[] places = new long[BAG_PLACES];
        int kind = MISSING;
        int length = 0;

        void become(int newKind, int n) {
            kind = newKind;
            length = n;
            Arrays.fill(places, 0L);
        }

        boolean hasPlaces(int i, int n) {
            // As long: the sum of two ints may wrap around.
            return i >= 0 && n >= 0 && (long) i + n <= length;
        }

        void keep(int i, long v) {
            if (kind == SHORTS) {
                places[i] = (short) v;
            } else if (kind == INTS) {
                places[i] = (int) v;
            } else {
                places[i] = v;
            }
        }
    }

    /** Four coins, as a bag tells them: four bends, four x, four y. */
    private static final class Four {
        static final int COINS = 4;
        static final int SIZE = 12;

        final long[] row = new long[SIZE];

        void take(Four other) {
            System.arraycopy(other.row, 0, row, 0, SIZE);
        }

        long told(int i, int what) {
            return row[COINS * what + i];
        }

        long bend(int i) {
            return row[i];
        }

        long sum(int what) {
            return told(0, what) + told(1, what) + told(2, what) + told(3, what);
        }

        /** What a swap of coin i would make of its bend, x or y. */
        long turned(int i, int what) {
            return 2 * sum(what) - 3 * told(i, what);
        }

        void turn(int i) {
            for (int what = BEND; what <= Y; what++) {
                row[COINS * what + i] = turned(i, what);
            }
        }

        /** The coin with the greatest bend, of several the first. */
        int greatest() {
            int best = 0;
            for (int i = 1; i < COINS; i++) {
                if (bend(i) > bend(best)) {
                    best = i;
                }
            }
            return best;
        }

        /** Goes down by at most so many steps; answers how many there were. */
        int goDown(int most) {
            for (int n = 0; n < most; n++) {
                int i = greatest();
                if (turned(i, BEND) >= bend(i)) {
                    return n;
                }
                turn(i);
            }
            return most;
        }

        /**
         * Swaps the two coins of a chain by turns until one of them is the coin at k; false if one
         * on the way is beyond the bounds.
         */
        boolean goAlong(int even, int odd, int k) {
            for (int m = 2; m <= k; m++) {
                if (!turnWithin((m & 1) == 0 ? even : odd)) {
                    return false;
                }
            }
            for (int m = -1; m >= k; m--) {
                if (!turnWithin((m & 1) == 0 ? even : odd)) {
                    return false;
                }
            }
            return true;
        }

        boolean turnWithin(int i) {
            turn(i);
            return refusalOfCoin(i) == 0;
        }

        boolean touches(int i, Four other, int j) {
            // Within the bounds the squares add up to 8e18 at most, which a long holds.
            long a = bend(i);
            long b = other.bend(j);
            long across = b * told(i, X) - a * other.told(j, X);
            long along = b * told(i, Y) - a * other.told(j, Y);
            return across * across + along * along == (a + b) * (a + b);
        }

        boolean hasBendsOf(Four other) {
            for (int i = 0; i < COINS; i++) {
                if (timesOf(bend(i)) != other.timesOf(bend(i))) {
                    return false;
                }
            }
            return true;
        }

        int timesOf(long bend) {
            int times = 0;
            for (int i = 0; i < COINS; i++) {
                if (bend(i) == bend) {
                    times++;
                }
            }
            return times;
        }

        int refusalOfCoin(int i) {
            if (isBendRefused(i)) {
                return REFUSED_BEND;
            }
            return isPlaceRefused(i) ? REFUSED_PLACE : 0;
        }

        boolean isBendRefused(int i) {
            return bend(i) == 0 || bend(i) < -MOST_BEND || bend(i) > MOST_BEND;
        }

        boolean isPlaceRefused(int i) {
            return isBeyond(told(i, X)) || isBeyond(told(i, Y));
        }

        static boolean isBeyond(long place) {
            return place < -MOST_PLACE || place > MOST_PLACE;
        }

        /** What refuses these four as a quad, or 0. */
        int refusal() {
            for (int i = 0; i < COINS; i++) {
                if (isBendRefused(i)) {
                    return REFUSED_BEND;
                }
            }
            for (int i = 0; i < COINS; i++) {
                if (isPlaceRefused(i)) {
                    return REFUSED_PLACE;
                }
            }
            if (!doBendsStand()) {
                return REFUSED_SUM;
            }
            if (bendsBelowZero() > 1) {
                return REFUSED_OUTER;
            }
            if (divisorOfBends() > 1) {
                return REFUSED_DIVISOR;
            }
            return doAllTouch() ? 0 : REFUSED_TOUCH;
        }

        boolean doBendsStand() {
            long squares = 0;
            for (int i = 0; i < COINS; i++) {
                squares += bend(i) * bend(i);
            }
            long sum = sum(BEND);
            return sum > 0 && 2 * squares == sum * sum;
        }

        int bendsBelowZero() {
            int below = 0;
            for (int i = 0; i < COINS; i++) {
                if (bend(i) < 0) {
                    below++;
                }
            }
            return below;
        }

        /** The greatest whole that divides all four bends. */
        long divisorOfBends() {
            long divisor = 0;
            for (int i = 0; i < COINS; i++) {
                long rest = Math.abs(bend(i));
                for (int n = 0; n < MOST_DIVISIONS && rest != 0; n++) {
                    long next = divisor % rest;
                    divisor = rest;
                    rest = next;
                }
            }
            return divisor;
        }

        boolean doAllTouch() {
            for (int i = 0; i < COINS; i++) {
                for (int j = i + 1; j < COINS; j++) {
                    if (!touches(i, this, j)) {
                        return false;
                    }
                }
            }
            return true;
        }
    }

    /** A quad, with what it never changes: where it came from and what its nest is. */
    private static final class Quad {
        final Four coins = new Four();
        final Four root = new Four();
        int from = NONE;
        int steps = 0;
        int seen = 0;

        void become(Four made, int newFrom, int newSeen) {
            coins.take(made);
            root.take(made);
            steps = root.goDown(MOST_STEPS);
            from = newFrom;
            seen = newSeen;
        }
    }

    /** Coins of a nest up to a bend, in their order. */
    private static final class Listing {
        final long[][] rows = new long[3][LISTED];
        int size = 0;
        int most = 0;
        int seen = 0;

        void begin(int newMost, int newSeen) {
            size = 0;
            most = newMost;
            seen = newSeen;
        }

        /** Lists coin i, unless it is there; false if that makes it too many. */
        boolean enter(Four four, int i) {
            if (four.refusalOfCoin(i) != 0) {
                return false;
            }
            int at = size;
            while (at > 0 && order(at - 1, four, i) > 0) {
                at--;
            }
            if (at > 0 && order(at - 1, four, i) == 0) {
                return true;
            }
            if (size >= LISTED) {
                return false;
            }
            for (int what = BEND; what <= Y; what++) {
                System.arraycopy(rows[what], at, rows[what], at + 1, size - at);
                rows[what][at] = four.told(i, what);
            }
            size++;
            return true;
        }

        int order(int at, Four four, int i) {
            for (int what = BEND; what <= Y; what++) {
                int order = Long.compare(rows[what][at], four.told(i, what));
                if (order != 0) {
                    return order;
                }
            }
            return 0;
        }

        /** The i-th whole up to the bend that is seen by 24, but is no listed bend; or NONE. */
        int bendLeft(int i) {
            int passed = 0;
            int at = 0;
            for (int whole = 1; whole <= most; whole++) {
                while (at < size && rows[BEND][at] < whole) {
                    at++;
                }
                boolean isListed = at < size && rows[BEND][at] == whole;
                if (!isListed && (seen >> (whole % MODULUS) & 1) == 1) {
                    if (passed == i) {
                        return whole;
                    }
                    passed++;
                }
            }
            return NONE;
        }
    }

    /** The fours of a nest that wait to be swapped each way. */
    private static final class NestSearch {
        // Each four but the root waits for one coin of its own that was listed.
        static final int ROOM = LISTED + 1;

        final Four[] waiting = new Four[ROOM];
        final int[] back = new int[ROOM];
        final Four next = new Four();
        int end = 0;

        NestSearch() {
            for (int n = 0; n < ROOM; n++) {
                waiting[n] = new Four();
            }
        }

        /** Lists the nest's coins up to the listing's bend; false if they are too many. */
        boolean gather(Four root, Listing listing) {
            for (int i = 0; i < Four.COINS; i++) {
                if (root.bend(i) <= listing.most && !listing.enter(root, i)) {
                    return false;
                }
            }
            end = 0;
            if (root.bend(root.greatest()) <= listing.most) {
                addWaiting(root, NONE);
            }
            for (int n = 0; n < end && n < ROOM; n++) {
                if (!swapEachWay(n, listing)) {
                    return false;
                }
            }
            return true;
        }

        boolean swapEachWay(int n, Listing listing) {
            for (int i = 0; i < Four.COINS; i++) {
                if (i == back[n] || waiting[n].turned(i, BEND) > listing.most) {
                    continue;
                }
                next.take(waiting[n]);
                next.turn(i);
                if (!listing.enter(next, i) || !addWaiting(next, i)) {
                    return false;
                }
            }
            return true;
        }

        boolean addWaiting(Four four, int swapped) {
            if (end >= ROOM) {
                return false;
            }
            waiting[end].take(four);
            back[end] = swapped;
            end++;
            return true;
        }
    }

    /** The fours by 24 that swaps make of one, each as a number of four digits to the base 24. */
    private static final class Remainders {
        private static final int[] WEIGHT = {1, 24, 576, 13824};

        final int[] fours = new int[REMAINDER_FOURS];
        int end = 0;

        /** The remainders of all bends that swaps make of these four: bit k for k. */
        int gather(Four coins) {
            int first = 0;
            for (int i = 0; i < Four.COINS; i++) {
                first += WEIGHT[i] * (int) Math.floorMod(coins.bend(i), (long) MODULUS);
            }
            end = 0;
            enter(first);
            int seen = 0;
            for (int n = 0; n < end && n < REMAINDER_FOURS; n++) {
                for (int i = 0; i < Four.COINS; i++) {
                    seen |= 1 << digit(fours[n], i);
                    enter(swapped(fours[n], i));
                }
            }
            return seen;
        }

        static int digit(int four, int i) {
            return four / WEIGHT[i] % MODULUS;
        }

        static int swapped(int four, int i) {
            int sum = digit(four, 0) + digit(four, 1) + digit(four, 2) + digit(four, 3);
            int old = digit(four, i);
            return four + WEIGHT[i] * (Math.floorMod(2 * sum - 3 * old, MODULUS) - old);
        }

        void enter(int four) {
            for (int n = 0; n < end; n++) {
                if (fours[n] == four) {
                    return;
                }
            }
            if (end < REMAINDER_FOURS) {
                fours[end] = four;
                end++;
            }
        }
    }
}
