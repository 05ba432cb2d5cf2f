/** Promises 15 to 21: list, listed, find, left, seen, chain, count. */
public final class NestsTest {
    private static final int LOW = Integer.MIN_VALUE;
    private static final int HIGH = Integer.MAX_VALUE;
    private static final int BAD = -20000000;
    private static final int BEYOND = -20000002;

    public static void main(String[] args) {
        withoutAList();
        listInOrder();
        listUnderTheRoot();
        listFromAnywhere();
        listAtItsRoom();
        listBeyondBounds();
        listKeepsTheOld();
        leftOver();
        remainders();
        chainGoes();
        chainStops();
        wrongNumbers();
        Due.end();
    }

    private static void withoutAList() {
        TouchingCoins x = Due.with(Due.SMALL);
        Due.due("listed", x.listed(0, 0), -20000001);
        Due.due("listed bad", x.listed(0, 3), BAD);
        Due.due("listed bad below", x.listed(-1, -1), BAD);
        Due.due("find", x.find(2), 0);
        Due.due("find 0", x.find(0), 0);
        Due.due("left", x.left(0), -3);
        Due.due("left bad", x.left(-1), -1);
        Due.due("count 1", x.count(1), 0);
        Due.due("count 2", x.count(2), 0);
        Due.due("count 0", x.count(0), 1);
    }

    private static void dueListed(TouchingCoins x, int... coins) {
        Due.due("count of the list", x.count(1), coins.length / 3);
        for (int n = 0; n < coins.length; n++) {
            Due.due("listed " + n / 3 + " " + n % 3, x.listed(n / 3, n % 3), coins[n]);
        }
        Due.due("listed behind", x.listed(coins.length / 3, 0), -20000001);
    }

    private static void listInOrder() {
        TouchingCoins x = Due.with(Due.SMALL);
        Due.due("list 6", x.list(0, 6), 9);
        dueListed(x, -1, 0, 0, 2, -1, 0, 2, 1, 0, 3, 0, -2, 3, 0, 2,
            6, -3, -4, 6, -3, 4, 6, 3, -4, 6, 3, 4);
        Due.due("to", x.count(2), 6);
        Due.due("find -1", x.find(-1), 1);
        Due.due("find 2", x.find(2), 2);
        Due.due("find 6", x.find(6), 4);
        Due.due("find 5", x.find(5), 0);
        Due.due("find low", x.find(LOW), 0);
        Due.due("find high", x.find(HIGH), 0);
        Due.due("list 5", x.list(0, 5), 5);
        Due.due("find 6 now", x.find(6), 0);
        Due.due("listed 5 now", x.listed(5, 0), -20000001);
        int[][] orders = {{1, 0, 2, 3}, {3, 2, 1, 0}, {2, 3, 0, 1}};
        for (int[] order : orders) {
            TouchingCoins y = Due.with(Due.ordered(Due.SMALL, order));
            Due.due("list 3", y.list(0, 3), 5);
            dueListed(y, -1, 0, 0, 2, -1, 0, 2, 1, 0, 3, 0, -2, 3, 0, 2);
        }
    }

    private static void listUnderTheRoot() {
        TouchingCoins x = Due.with(Due.UNLIKE);
        Due.due("1", x.list(0, 1), 1);
        dueListed(x, -6, 2, 3);
        Due.due("to", x.count(2), 1);
        Due.due("10", x.list(0, 10), 1);
        Due.due("11", x.list(0, 11), 2);
        Due.due("14", x.list(0, 14), 3);
        dueListed(x, -6, 2, 3, 11, -3, -6, 14, -6, -7);
        Due.due("15", x.list(0, 15), 4);
        Due.due("22", x.list(0, 22), 4);
        Due.due("23", x.list(0, 23), 5);
        dueListed(x, -6, 2, 3, 11, -3, -6, 14, -6, -7, 15, -5, -6, 23, -9, -14);
    }

    private static void listFromAnywhere() {
        TouchingCoins x = Due.with(Due.WIDE);
        x.swap(0, 3);
        x.swap(1, 2);
        x.swap(2, 1);
        for (int most = 1; most < 60; most += 7) {
            int want = x.list(0, most);
            int last = x.listed(want - 1, 1);
            Due.due("as many", x.list(3, most), want);
            Due.due("the same last", x.listed(want - 1, 1), last);
        }
    }

    private static void listAtItsRoom() {
        TouchingCoins x = Due.with(Due.UNLIKE);
        Due.due("240", x.list(0, 785), 240);
        Due.due("the last", x.listed(239, 0), 782);
        Due.due("behind it", x.listed(240, 0), -20000001);
        Due.due("241", x.list(0, 786), -4);
        Due.due("2000", x.list(0, 2000), -4);
        Due.due("still 240", x.count(1), 240);
        Due.due("still to 785", x.count(2), 785);
        for (int i = 1; i < 240; i++) {
            if (i % 60 == 0) {
                // An object is used for 512 calls at most.
                x = Due.with(Due.UNLIKE);
                x.list(0, 785);
            }
            Due.due("in order", comesBehind(x, i) ? 1 : 0, 1);
        }
        TouchingCoins y = Due.with(new int[] {-14, 19, 54, 55, 2, -3, -6, -5, 5, -7, -17, -19});
        Due.due("240 to 1953", y.list(0, 1953), 240);
        Due.due("241 to 1954", y.list(0, 1954), -4);
        Due.due("2001", y.list(0, 2001), -1);
        TouchingCoins z = Due.with(new int[] {-22, 23, 506, 507, 0, 0, 0, -2, 1, -1, -45, -45});
        Due.due("to 2000", z.list(0, 2000) > 4 ? 1 : 0, 1);
        Due.due("counted to 2000", z.count(2), 2000);
    }

    private static boolean comesBehind(TouchingCoins x, int i) {
        for (int what = 0; what < 3; what++) {
            if (x.listed(i, what) != x.listed(i - 1, what)) {
                return x.listed(i, what) > x.listed(i - 1, what);
            }
        }
        return false;
    }

    private static void listBeyondBounds() {
        TouchingCoins lined = Due.with(Due.LINED);
        Due.due("a bend 0", lined.list(0, 1), -4);
        Due.due("a bend 0 to 2000", lined.list(0, 2000), -4);
        Due.due("no list", lined.count(2), 0);
        // Its coins of bend 3 stand at x 49998, those of bend 6 beyond the bounds.
        TouchingCoins far = Due.with(Due.moved(Due.SMALL, 16666, 0));
        Due.due("up to 3", far.list(0, 3), 5);
        Due.due("up to 5", far.list(0, 5), 5);
        Due.due("up to 6", far.list(0, 6), -4);
        Due.due("to 5 still", far.count(2), 5);
        TouchingCoins high = Due.with(Due.moved(Due.SMALL, 0, 16666));
        Due.due("y up to 5", high.list(0, 5), 5);
        Due.due("y up to 6", high.list(0, 6), -4);
        TouchingCoins low = Due.with(Due.moved(Due.SMALL, 0, -16666));
        Due.due("y down to 2", low.list(0, 2), 3);
        Due.due("y down to 3", low.list(0, 3), 5);
        // One of its two coins of bend 3 is in the bag at y 50000, the other one at 49996.
        Due.due("the other one", high.listed(3, 2), 49996);
    }

    private static void listKeepsTheOld() {
        TouchingCoins x = Due.with(Due.SMALL);
        Due.quad(x, Due.WIDE);
        Due.due("list", x.list(1, 10), 7);
        Due.due("left of it", x.left(0), -3);
        Due.due("many", x.list(0, 2000), -4);
        Due.due("bad", x.list(2, 3), -1);
        Due.due("bad most", x.list(0, 0), -1);
        Due.due("count", x.count(1), 7);
        Due.due("to", x.count(2), 10);
        Due.due("first", x.listed(0, 0), -2);
        Due.due("last", x.listed(6, 0), 10);
        Due.due("find", x.find(3), 1);
        Due.due("left still", x.left(0), -3);
        Due.due("again", x.list(1, 60), 35);
        Due.due("left now", x.left(0), 18);
        Due.due("many again", x.list(0, 1000), -4);
        Due.due("left of the old one", x.left(0), 18);
        Due.due("a short one", x.list(0, 1), 1);
        Due.due("left of the short one", x.left(0), -3);
    }

    private static void leftOver() {
        TouchingCoins x = Due.with(Due.UNLIKE);
        int[] mosts = {1, 24, 100, 785};
        for (int most : mosts) {
            x.list(0, most);
            int seen = x.seen(0);
            int i = 0;
            for (int whole = 1; whole <= most && i < 30; whole++) {
                if ((seen >> (whole % 24) & 1) == 1 && x.find(whole) == 0) {
                    Due.due("left " + i, x.left(i), whole);
                    i++;
                }
            }
            if (i < 30) {
                Due.due("left behind", x.left(i), -3);
            }
            Due.due("left high", x.left(HIGH), -3);
            Due.due("left -1", x.left(-1), -1);
            Due.due("left low", x.left(LOW), -1);
        }
        // From 1 on: 1 and 0 by 24 are seen there, and it has no coin of bend 1.
        TouchingCoins from1 = Due.with(new int[] {-8, 9, 72, 73, 0, 0, 0, -2, 1, -1, -17, -17});
        Due.due("0 and 1 are seen", from1.seen(0) & 3, 3);
        Due.due("list to 24", from1.list(0, 24), 2);
        int[] left = {1, 4, 12, 16, 24};
        for (int i = 0; i < left.length; i++) {
            Due.due("left from 1", from1.left(i), left[i]);
        }
        Due.due("no more to 24", from1.left(5), -3);
        // Up to the bend itself: 18 by 24 is seen there, and no coin of the nest has it.
        TouchingCoins wide = Due.with(Due.WIDE);
        wide.list(0, 17);
        Due.due("to 17", wide.left(0), -3);
        wide.list(0, 18);
        Due.due("to 18", wide.left(0), 18);
        Due.due("no more to 18", wide.left(1), -3);
    }

    private static void remainders() {
        Due.due("small", Due.with(Due.SMALL).seen(0), 8702028);
        Due.due("wide", Due.with(Due.WIDE).seen(0), 5014728);
        int[][] fours = {Due.SMALL, Due.WIDE, Due.UNLIKE, Due.LINED,
            {-3, 5, 8, 8, 0, 0, -1, 1, 1, -1, -4, -4}};
        for (int[] four : fours) {
            TouchingCoins x = Due.with(four);
            Due.due("seen", x.seen(0), seenByWalking(four));
            int up = x.swap(0, 1);
            Due.due("seen of a swap", x.seen(up), x.seen(0));
            Due.due("seen moved", Due.with(Due.moved(four, 3, 9)).seen(0), x.seen(0));
            Due.due("the same again", x.seen(Due.quad(x, four)), x.seen(0));
            Due.due("another", x.seen(Due.quad(x, Due.SMALL)), 8702028);
            Due.due("seen ordered", Due.with(Due.ordered(four, 2, 3, 1, 0)).seen(0), x.seen(0));
        }
    }

    /** Remainders of all bends that up to nine swaps make, each by its own numbers. */
    private static int seenByWalking(int[] four) {
        return walked(new long[] {four[0], four[1], four[2], four[3]}, 9);
    }

    private static int walked(long[] bends, int depth) {
        int seen = 0;
        for (int i = 0; i < 4; i++) {
            seen |= 1 << (int) Math.floorMod(bends[i], 24L);
        }
        for (int i = 0; i < 4 && depth > 0; i++) {
            long[] next = bends.clone();
            next[i] = 2 * (bends[0] + bends[1] + bends[2] + bends[3] - bends[i]) - bends[i];
            seen |= walked(next, depth - 1);
        }
        return seen;
    }

    private static void dueLink(TouchingCoins x, int i, int j, int k, int bend, int cx, int cy) {
        Due.due("bend at " + k, x.chain(0, i, j, k, 0), bend);
        Due.due("x at " + k, x.chain(0, i, j, k, 1), cx);
        Due.due("y at " + k, x.chain(0, i, j, k, 2), cy);
        Due.due("bend at " + k + ", turned", x.chain(0, j, i, k, 0), bend);
    }

    private static void chainGoes() {
        TouchingCoins x = Due.with(Due.UNLIKE);
        for (int i = 0; i < 4; i++) {
            for (int j = i + 1; j < 4; j++) {
                int first = i > 0 ? 0 : j > 1 ? 1 : 2;
                int second = 6 - i - j - first;
                int[][] link = new int[15][];
                link[7] = new int[] {Due.UNLIKE[first], Due.UNLIKE[4 + first], Due.UNLIKE[8 + first]};
                link[8] = new int[] {Due.UNLIKE[second], Due.UNLIKE[4 + second], Due.UNLIKE[8 + second]};
                for (int at = 9; at < 15; at++) {
                    link[at] = otherOne(i, j, link[at - 1], link[at - 2]);
                }
                for (int at = 6; at >= 0; at--) {
                    link[at] = otherOne(i, j, link[at + 1], link[at + 2]);
                }
                for (int at = 0; at < 15; at++) {
                    dueLink(x, i, j, at - 7, link[at][0], link[at][1], link[at][2]);
                }
            }
            x = Due.with(Due.UNLIKE);
        }
        Due.due("no quad of it", x.count(0), 1);
        Due.due("the quad stays", x.coin(0, 2, 0), 14);
    }

    /** The coin that touches i, j and one more, other than a given one. */
    private static int[] otherOne(int i, int j, int[] more, int[] given) {
        int[] made = new int[3];
        for (int what = 0; what < 3; what++) {
            made[what] = 2 * (Due.UNLIKE[4 * what + i] + Due.UNLIKE[4 * what + j] + more[what]) - given[what];
        }
        return made;
    }

    private static void chainStops() {
        // Between -1 and 2 the bends are (k - c) (k - c) + 2: 100 links either way are within.
        TouchingCoins x = Due.with(Due.SMALL);
        Due.due("100", x.chain(0, 0, 1, 100, 0), 100 * 100 + 2);
        Due.due("-100", x.chain(0, 0, 1, -100, 0), 100 * 100 + 2);
        Due.due("101", x.chain(0, 0, 1, 101, 0), BAD);
        Due.due("-101", x.chain(0, 0, 1, -101, 0), BAD);
        // Between 2 and 2 they are 4 k k - 1 or so: 20000 comes before 100.
        int first = 0;
        for (int k = 2; k <= 100 && first == 0; k++) {
            if (x.chain(0, 1, 2, k, 0) == BEYOND) {
                first = k;
            }
        }
        Due.due("the first beyond", first, 71);
        Due.due("the last within", x.chain(0, 1, 2, 70, 0), 4 * 70 * 70 - 1);
        Due.due("behind it", x.chain(0, 1, 2, 72, 1), BEYOND);
        Due.due("behind it", x.chain(0, 1, 2, 100, 2), BEYOND);
        // A place beyond the bounds on the way, and the bends within them.
        TouchingCoins far = Due.with(Due.moved(Due.SMALL, 16666, 0));
        Due.due("far at 0", far.chain(0, 0, 1, 0, 1), 33331);
        Due.due("far at 1", far.chain(0, 0, 1, 1, 1), 49998);
        Due.due("far at 2", far.chain(0, 0, 1, 2, 0), BEYOND);
        Due.due("far at -1", far.chain(0, 0, 1, -1, 0), 3);
        Due.due("far at -2", far.chain(0, 0, 1, -2, 0), BEYOND);
        // Between the two coins of bend 1 there are lines at 2 and 3; behind them coins again.
        TouchingCoins lined = Due.with(Due.LINED);
        Due.due("lined at 0", lined.chain(0, 1, 2, 0, 0), 12);
        Due.due("lined at 1", lined.chain(0, 1, 2, 1, 0), 4);
        Due.due("a line at 2", lined.chain(0, 1, 2, 2, 0), BEYOND);
        Due.due("behind lines", lined.chain(0, 1, 2, 4, 0), BEYOND);
        Due.due("the other way", lined.chain(0, 1, 2, -1, 0), 24);
    }

    private static void wrongNumbers() {
        TouchingCoins x = Due.with(Due.SMALL);
        x.list(0, 3);
        for (int q : new int[] {-1, 1, 59, 60, LOW, HIGH}) {
            Due.due("list", x.list(q, 3), -1);
            Due.due("seen", x.seen(q), -1);
            Due.due("chain", x.chain(q, 0, 1, 0, 0), BAD);
        }
        for (int most : new int[] {0, -1, 2001, LOW, HIGH}) {
            Due.due("list to " + most, x.list(0, most), -1);
        }
        for (int what : new int[] {-1, 3, LOW, HIGH}) {
            Due.due("listed what", x.listed(0, what), BAD);
            Due.due("listed what, none", x.listed(9, what), BAD);
            Due.due("chain what", x.chain(0, 0, 1, 0, what), BAD);
            Due.due("chain what, beyond", x.chain(0, 1, 2, 100, what), BAD);
            Due.due("count what", x.count(what), -1);
        }
        for (int i : new int[] {-1, 5, LOW, HIGH}) {
            Due.due("listed none", x.listed(i, 0), -20000001);
        }
        for (int i : new int[] {-1, 4, LOW, HIGH}) {
            Due.due("chain i", x.chain(0, i, 1, 0, 0), BAD);
            Due.due("chain j", x.chain(0, 1, i, 0, 0), BAD);
            Due.due("chain i and j", x.chain(0, i, i, 0, 0), BAD);
        }
        for (int i = 0; i < 4; i++) {
            Due.due("chain twice", x.chain(0, i, i, 0, 0), BAD);
        }
        Due.due("chain low", x.chain(0, 0, 1, LOW, 0), BAD);
        Due.due("chain high", x.chain(0, 0, 1, HIGH, 0), BAD);
        Due.due("the list stays", x.count(1), 5);
    }
}
