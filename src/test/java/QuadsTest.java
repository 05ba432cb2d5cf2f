/** Promises 6 to 14: quad, swap, coin, from, steps, step, root, same, touch. */
public final class QuadsTest {
    private static final int LOW = Integer.MIN_VALUE;
    private static final int HIGH = Integer.MAX_VALUE;
    private static final int[] NO_QUAD = {-1, 2, 59, 60, LOW, HIGH};
    private static final int[] NO_COIN = {-1, 4, LOW, HIGH};
    private static final int[] NO_WHAT = {-1, 3, LOW, HIGH};

    public static void main(String[] args) {
        quadReadsBags();
        quadAtTheBounds();
        quadRefusesInOrder();
        quadLooksAtEachPair();
        swapMakes();
        swapAtTheBounds();
        bothAreFull();
        coinTells();
        downToTheRoot();
        downOfSeveralTheFirst();
        downThroughLines();
        sameRoots();
        touching();
        wrongNumbers();
        Due.end();
    }

    private static void quadReadsBags() {
        TouchingCoins x = new TouchingCoins();
        for (int kind = 0; kind <= 2; kind++) {
            for (int at = 0; at <= 12; at += 6) {
                x.bag(kind, kind, 12 + at);
                for (int i = 0; i < 12; i++) {
                    x.put(kind, at + i, Due.UNLIKE[i]);
                }
                int q = x.quad(kind, at);
                Due.due("number", q, x.count(0) - 1);
                for (int i = 0; i < 12; i++) {
                    Due.due("read", x.coin(q, i % 4, i / 4), Due.UNLIKE[i]);
                }
                Due.due("one place more", x.quad(kind, at + 1), -12);
            }
        }
        x.put(2, 12, -99);
        x.bag(1, -1, 0);
        Due.due("never changed", x.coin(8, 0, 0), -6);
        Due.due("low", x.quad(2, LOW), -12);
        Due.due("high", x.quad(2, HIGH), -12);
        Due.due("below", x.quad(2, -1), -12);
        Due.due("missing", x.quad(1, -1), -11);
        x.bag(1, 2, 11);
        Due.due("short bag", x.quad(1, 0), -12);
        for (int r : new int[] {-1, 6, LOW, HIGH}) {
            Due.due("no bag", x.quad(r, -1), -1);
        }
        Due.due("no more of them", x.count(0), 9);
    }

    private static void quadAtTheBounds() {
        TouchingCoins x = new TouchingCoins();
        int[] up = Due.moved(Due.SMALL, 0, 16666);
        Due.due("y 50000", up[11], 50000);
        Due.due("y at 50000", Due.quad(x, up), 0);
        int[] left = new int[12];
        for (int i = 0; i < 4; i++) {
            left[i] = up[i];
            left[4 + i] = -up[8 + i];
            left[8 + i] = up[4 + i];
        }
        Due.due("x at -50000", Due.quad(x, left), 1);
        Due.due("y at 50003", Due.quad(x, Due.moved(Due.SMALL, 0, 16667)), -16);
        Due.due("bend 20000", Due.quad(x, 869, 2301, 20000, 6996, 8, 24, 199, 69,
            -391, -1033, -8980, -3140), 2);
        Due.due("bend 20002", Due.quad(x, 2082, 6643, 20002, 1279, -1495, -4769, -14357, -917,
            252, 800, 2412, 154), -15);
    }

    private static void quadRefusesInOrder() {
        TouchingCoins x = new TouchingCoins();
        long[] bounds = {0, 20001, -20001, Long.MAX_VALUE, Long.MIN_VALUE, 4294967298L};
        for (int i = 0; i < 4; i++) {
            for (long bend : bounds) {
                Due.due("bend", quadBut(x, i, bend), -15);
            }
            Due.due("bend 20000 is none", quadBut(x, i, 20000), -17);
            Due.due("bend -20000 is none", quadBut(x, i, -20000), -17);
        }
        for (int i = 4; i < 12; i++) {
            Due.due("place 50001", quadBut(x, i, 50001), -16);
            Due.due("place -50001", quadBut(x, i, -50001), -16);
            Due.due("place 50000", quadBut(x, i, 50000), -20);
            Due.due("place -50000", quadBut(x, i, -50000), -20);
            Due.due("place high", quadBut(x, i, Long.MAX_VALUE), -16);
            Due.due("place low", quadBut(x, i, Long.MIN_VALUE), -16);
        }
        Due.due("bend ahead of place", Due.quad(x, -1, 2, 2, 0, 60000, 1, -1, 0, 0, 0, 0, 2), -15);
        Due.due("place ahead of sum", Due.quad(x, -1, 2, 2, 4, 0, 1, -1, 0, 0, 0, 0, 60000), -16);
        Due.due("sum", Due.quad(x, -1, 2, 2, 4, 0, 1, -1, 0, 0, 0, 0, 2), -17);
        Due.due("sum below 0", Due.quad(x, 1, -2, -2, -3, 0, -1, 1, 0, 0, 0, 0, -2), -17);
        Due.due("sum is 0", Due.quad(x, 1, -1, 2, -2, 0, 0, 0, 0, 0, 0, 0, 0), -17);
        Due.due("two below 0", Due.quad(x, -1, -1, 2, 3, 0, 0, 0, 0, 0, 0, 0, 0), -17);
        Due.due("all by 2", Due.quad(x, -2, 4, 4, 6, 0, 2, -2, 0, 0, 0, 0, 4), -19);
        Due.due("all by 3", Due.quad(x, -3, 6, 6, 9, 0, 0, 0, 0, 0, 0, 0, 0), -19);
        Due.due("all by 5000", Due.quad(x, -5000, 10000, 10000, 15000, 0, 0, 0, 0, 0, 0, 0, 0), -19);
        Due.due("bends alone count", Due.quad(x, -2, 4, 4, 6, 1, 1, 1, 1, 1, 1, 1, 1), -19);
        Due.due("three by 3", Due.quad(x, -3, 6, 7, 6, 0, 0, 0, 0, 0, 0, 0, 0), -17);
        Due.due("none touch", Due.quad(x, -1, 2, 2, 3, 0, 0, 0, 0, 0, 0, 0, 0), -20);
        Due.due("none came", x.count(0), 0);
        for (int first = 0; first < 4; first++) {
            int[] turned = Due.ordered(Due.WIDE, first, (first + 1) % 4, (first + 2) % 4, (first + 3) % 4);
            Due.due("in any order", Due.quad(x, turned), first);
        }
    }

    private static int quadBut(TouchingCoins x, int place, long v) {
        long[] twelve = new long[12];
        for (int i = 0; i < 12; i++) {
            twelve[i] = Due.SMALL[i];
        }
        twelve[place] = v;
        return Due.quad(new TouchingCoins(), twelve);
    }

    /** The two coins of bend 2 in one place: they do not touch, and all other pairs do. */
    private static void quadLooksAtEachPair() {
        int[] twice = {2, 2, -1, 3, 1, 1, 0, 0, 0, 0, 0, 2};
        for (int i = 0; i < 4; i++) {
            for (int j = 0; j < 4; j++) {
                if (i != j) {
                    int[] order = {-1, -1, -1, -1};
                    order[i] = 0;
                    order[j] = 1;
                    int next = 2;
                    for (int k = 0; k < 4; k++) {
                        if (order[k] < 0) {
                            order[k] = next++;
                        }
                    }
                    Due.due("pair", Due.quad(new TouchingCoins(), Due.ordered(twice, order)), -20);
                }
            }
        }
    }

    private static void swapMakes() {
        TouchingCoins x = Due.with(Due.UNLIKE);
        // Twice the sum of the other three, less its own.
        int[][] due = {{86, -30, -41}, {35, -15, -14}, {26, -6, -11}, {23, -9, -14}};
        for (int i = 0; i < 4; i++) {
            Due.due("swap", x.swap(0, i), i + 1);
            Due.dueCoin("swapped " + i, x, i + 1, i, due[i][0], due[i][1], due[i][2]);
            for (int j = 0; j < 4; j++) {
                if (j != i) {
                    Due.dueCoin("kept " + j, x, i + 1, j,
                        Due.UNLIKE[j], Due.UNLIKE[4 + j], Due.UNLIKE[8 + j]);
                }
            }
            Due.due("from", x.from(i + 1), 0);
        }
        Due.due("the first stays", x.coin(0, 0, 0), -6);
        Due.due("swap back", x.swap(2, 1), 5);
        Due.dueCoin("as it was", x, 5, 1, 11, -3, -6);
        Due.due("from 2", x.from(5), 2);
        Due.due("swap of the fifth", x.swap(5, 3), 6);
        Due.due("from 5", x.from(6), 5);
        Due.due("from none", x.from(0), -3);
        Due.due("quad again", Due.quad(x, Due.UNLIKE), 7);
        Due.due("from none again", x.from(7), -3);
    }

    private static void swapAtTheBounds() {
        dueSwap(0, 2, 869, 2301, 332, 6996, 8, 24, 3, 69, -391, -1033, -148, -3140);
        dueSwap(-15, 2, 2082, 6643, 6, 1279, -1495, -4769, -5, -917, 252, 800, 0, 154);
        dueSwap(0, 3, -2, 19, 6, 7, -2565, 24360, 7693, 8976, 0, 4, 0, 2);
        dueSwap(-16, 1, -1, 2, 2, 3, -8334, 16669, 16667, 25002, 0, 0, 0, -2);
        dueSwap(0, 3, -2, 3, 10, 7, 6667, -10000, -33335, -23336, 0, 0, 4, 2);
        dueSwap(-16, 1, -1, 2, 2, 3, 8333, -16665, -16667, -24999, 0, 0, 0, -2);
        dueSwap(0, 1, -1, 2, 2, 3, 0, 1, -1, 0, -8334, 16668, 16668, 25000);
        dueSwap(-16, 3, -1, 6, 2, 3, 0, -3, -1, 0, -4545, 27274, 9090, 13637);
        dueSwap(0, 3, -1, 6, 2, 3, 0, -3, -1, 0, 4546, -27272, -9092, -13636);
        dueSwap(-16, 3, 34, 3, 6, 7, -23, -1, -5, -5, -21518, -1899, -3798, -4429);
        TouchingCoins x = Due.with(Due.LINED);
        Due.due("a bend 0", x.swap(0, 0), -15);
        Due.due("no quad of it", x.count(0), 1);
        // Both its bend and its place are beyond the bounds.
        int[] far = Due.moved(new int[] {2082, 6643, 6, 1279, -1495, -4769, -5, -917, 252, 800, 0, 154},
            -3, 0);
        x = Due.with(far);
        Due.due("bend ahead of place", x.swap(0, 2), -15);
    }

    private static void dueSwap(int want, int i, long... twelve) {
        TouchingCoins x = new TouchingCoins();
        Due.due("quad to swap", Due.quad(x, twelve), 0);
        Due.due("swap at a bound", x.swap(0, i), want == 0 ? 1 : want);
        Due.due("quads behind it", x.count(0), want == 0 ? 2 : 1);
    }

    private static void bothAreFull() {
        TouchingCoins x = Due.with(Due.LINED);
        for (int q = 1; q < 60; q++) {
            Due.due("room", q % 2 == 0 ? x.swap(q - 1, 3) : x.quad(5, 0), q);
        }
        Due.due("full quad", x.quad(5, 0), -2);
        Due.due("full swap", x.swap(59, 3), -2);
        Due.due("beyond ahead of full", x.swap(0, 0), -15);
        Due.due("bad ahead of full", x.swap(60, 0), -1);
        x.put(5, 0, 13);
        Due.due("sum ahead of full", x.quad(5, 0), -17);
        x.put(5, 0, 12);
        x.put(5, 4, 13);
        Due.due("touch ahead of full", x.quad(5, 0), -20);
        Due.due("all there", x.count(0), 60);
        Due.due("the last one", x.from(59), -3);
        Due.due("the one before", x.from(58), 57);
    }

    private static void coinTells() {
        TouchingCoins x = Due.with(Due.UNLIKE);
        for (int i = 0; i < 4; i++) {
            Due.dueCoin("coin " + i, x, 0, i, Due.UNLIKE[i], Due.UNLIKE[4 + i], Due.UNLIKE[8 + i]);
        }
    }

    private static void downToTheRoot() {
        TouchingCoins x = Due.with(Due.UNLIKE);
        int[] swaps = {3, 2, 1, 0, 2, 3};
        for (int n = 0; n < swaps.length; n++) {
            Due.due("up", x.swap(n, swaps[n]), n + 1);
        }
        for (int q = 0; q <= swaps.length; q++) {
            Due.due("steps", x.steps(q), q);
            for (int k = 0; k < q; k++) {
                Due.due("step " + k, x.step(q, k), swaps[q - 1 - k]);
            }
            Due.due("no step", x.step(q, q), -3);
            Due.due("no step high", x.step(q, HIGH), -3);
            for (int i = 0; i < 12; i++) {
                Due.due("root", x.root(q, i % 4, i / 4), Due.UNLIKE[i]);
            }
        }
        // A chain of 139 coins: each has a bend k k + 2 and touches -1 and 2.
        TouchingCoins deep = Due.with(new int[] {-1, 2, 138 * 138 + 2, 139 * 139 + 2,
            0, 1, 138 * 138 - 1, 139 * 139 - 1, 0, 0, 2 * 138, 2 * 139});
        Due.due("steps of a chain", deep.steps(0), 138);
        Due.due("step 0", deep.step(0, 0), 3);
        Due.due("step 1", deep.step(0, 1), 2);
        Due.due("step 137", deep.step(0, 137), 2);
        Due.due("step 138", deep.step(0, 138), -3);
        Due.due("root 2", deep.root(0, 2, 0), 2);
        Due.due("root 3", deep.root(0, 3, 0), 3);
        Due.due("root 3 y", deep.root(0, 3, 2), 2);
    }

    private static void downOfSeveralTheFirst() {
        TouchingCoins x = Due.with(new int[] {-3, 5, 8, 8, 0, 0, -1, 1, 1, -1, -4, -4});
        Due.due("a root with two greatest", x.steps(0), 0);
        Due.due("over it", x.swap(0, 1), 1);
        Due.due("bend", x.coin(1, 1, 0), 21);
        Due.due("one step", x.steps(1), 1);
        Due.due("step", x.step(1, 0), 1);
        TouchingCoins y = Due.with(new int[] {4, 1, 1, 12, 4, 0, 2, 12, 1, 1, 1, 7});
        Due.due("two steps", y.steps(0), 2);
        Due.due("first the 12", y.step(0, 0), 3);
        Due.due("then the 4", y.step(0, 1), 0);
        Due.due("a line", y.root(0, 3, 0), 0);
        Due.due("its x", y.root(0, 3, 1), 0);
        Due.due("its y", y.root(0, 3, 2), -1);
        Due.due("the other line", y.root(0, 0, 0), 0);
        Due.due("its y", y.root(0, 0, 2), 1);
    }

    private static void downThroughLines() {
        TouchingCoins x = Due.with(Due.LINED);
        Due.due("steps through a bend 0", x.steps(0), 2);
        Due.due("swapped 0", x.step(0, 0), 0);
        Due.due("swapped 3", x.step(0, 1), 3);
        Due.due("bend 0", x.root(0, 0, 0), 0);
        Due.due("bend 0 too", x.root(0, 3, 0), 0);
        Due.due("seen from the first", x.same(0, 0), 1);
        // By way of 15 and 2 down to -1, as far to the right as the places allow.
        int[] deep = {3, 2, 15, 38, 0, 1, 0, 3, 2, 0, 4, 12};
        TouchingCoins far = Due.with(Due.moved(deep, 1315, 0));
        Due.due("steps", far.steps(0), 2);
        int[] root = Due.moved(new int[] {3, 2, -1, 2, 0, 1, 0, -1, 2, 0, 0, 0}, 1315, 0);
        for (int i = 0; i < 12; i++) {
            Due.due("far root", far.root(0, i % 4, i / 4), root[i]);
        }
    }

    private static void sameRoots() {
        TouchingCoins x = Due.with(Due.WIDE);
        Due.due("ordered", Due.quad(x, Due.ordered(Due.WIDE, 3, 1, 0, 2)), 1);
        Due.due("moved", Due.quad(x, Due.moved(Due.WIDE, 5, -7)), 2);
        Due.due("other", Due.quad(x, Due.UNLIKE), 3);
        Due.due("small", Due.quad(x, Due.SMALL), 4);
        Due.due("up", x.swap(1, 2), 5);
        Due.due("other up", x.swap(3, 0), 6);
        // Its x of coin 0 is the bend of coin 0, its x of coin 1 that of coin 3.
        Due.due("moved by 1", Due.quad(x, Due.moved(Due.SMALL, 1, 0)), 7);
        Due.due("a place like a bend", x.coin(7, 0, 1), x.coin(7, 0, 0));
        int[] group = {0, 0, 0, 1, 2, 0, 1, 2};
        for (int q = 0; q < group.length; q++) {
            for (int r = 0; r < group.length; r++) {
                Due.due("same " + q + " " + r, x.same(q, r), group[q] == group[r] ? 1 : 0);
            }
        }
    }

    private static void touching() {
        TouchingCoins x = Due.with(Due.SMALL);
        Due.due("up", x.swap(0, 0), 1);
        Due.due("moved", Due.quad(x, Due.moved(Due.SMALL, 1, 0)), 2);
        for (int i = 0; i < 4; i++) {
            for (int j = 0; j < 4; j++) {
                Due.due("in one", x.touch(0, i, 0, j), i == j ? 0 : 1);
                Due.due("over a swap", x.touch(1, i, 0, j), i == j ? 0 : 1);
            }
        }
        // Coins of radius 1/2 at 1/2 and -1/2, and the same ones at 3/2 and 1/2.
        Due.due("side by side", x.touch(0, 1, 2, 1), 1);
        Due.due("in one place", x.touch(0, 1, 2, 2), 0);
        Due.due("apart", x.touch(0, 2, 2, 1), 0);
        Due.due("outer ones that cut", x.touch(0, 0, 2, 0), 0);
        Due.due("outer holds and touches", x.touch(2, 0, 0, 1), 1);
        Due.due("outer and one beside it", x.touch(2, 0, 0, 2), 0);
        Due.due("one beside the outer", x.touch(0, 2, 2, 0), 0);
        Due.due("side by side again", x.touch(2, 2, 0, 2), 1);
    }

    private static void wrongNumbers() {
        TouchingCoins x = Due.with(Due.SMALL);
        x.swap(0, 0);
        for (int q : NO_QUAD) {
            Due.due("swap", x.swap(q, 0), -1);
            Due.due("coin", x.coin(q, 0, 0), -20000000);
            Due.due("from", x.from(q), -1);
            Due.due("steps", x.steps(q), -1);
            Due.due("step", x.step(q, 0), -1);
            Due.due("root", x.root(q, 0, 0), -20000000);
            Due.due("same", x.same(q, 0), -1);
            Due.due("same of", x.same(0, q), -1);
            Due.due("touch", x.touch(q, 0, 0, 1), -1);
            Due.due("touch of", x.touch(0, 0, q, 1), -1);
        }
        for (int i : NO_COIN) {
            Due.due("swap", x.swap(0, i), -1);
            Due.due("coin", x.coin(0, i, 0), -20000000);
            Due.due("root", x.root(0, i, 0), -20000000);
            Due.due("touch", x.touch(0, i, 1, 1), -1);
            Due.due("touch of", x.touch(0, 1, 1, i), -1);
        }
        for (int what : NO_WHAT) {
            Due.due("coin", x.coin(0, 0, what), -20000000);
            Due.due("root", x.root(0, 0, what), -20000000);
        }
        Due.due("step -1", x.step(1, -1), -1);
        Due.due("step low", x.step(1, LOW), -1);
        Due.due("nothing came", x.count(0), 2);
    }
}
