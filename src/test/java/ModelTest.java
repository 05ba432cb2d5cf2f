/** Long mixed runs of calls, right and wrong ones, whose answers the model tells: all promises. */
public final class ModelTest {
    private static final int RUNS = 400;
    private static final int MOST_CALLS = 512;
    private static final int[][] FOURS = {
        Due.SMALL, Due.WIDE, Due.UNLIKE, Due.LINED,
        {-3, 5, 8, 8, 0, 0, -1, 1, 1, -1, -4, -4},
        {-7, 12, 17, 20, 2, -4, -4, -4, 2, -3, -6, -5},
        {-9, 14, 26, 27, 1, -2, -2, -1, 3, -5, -7, -9},
        {-22, 23, 506, 507, 0, 0, 0, -2, 1, -1, -45, -45},
        {3, 2, 15, 38, 0, 1, 0, 3, 2, 0, 4, 12},
        {869, 2301, 332, 6996, 8, 24, 3, 69, -391, -1033, -148, -3140},
        {-2, 4, 4, 6, 0, 2, -2, 0, 0, 0, 0, 4},
        {1, -2, -2, -3, 0, -1, 1, 0, 0, 0, 0, -2},
    };

    private final TouchingCoins bench = new TouchingCoins();
    private final Model model = new Model();
    private final int run;
    private long state;
    private int calls = 0;

    private ModelTest(int run) {
        this.run = run;
        state = run * 7919L + 17;
    }

    public static void main(String[] args) {
        for (int run = 0; run < RUNS; run++) {
            new ModelTest(run).go();
        }
        Due.end();
    }

    /** A number from 0 to n - 1, the same ones each time. */
    private int any(int n) {
        state = state * 6364136223846793005L + 1442695040888963407L;
        return (int) ((state >>> 33) % n);
    }

    /** Mostly a number from 0 to n - 1, seldom one beside them or far off. */
    private int near(int n) {
        switch (any(24)) {
            case 0:
                return -1;
            case 1:
                return n;
            case 2:
                return any(2) == 0 ? Integer.MIN_VALUE : Integer.MAX_VALUE;
            default:
                return any(Math.max(n, 1));
        }
    }

    private void due(String call, int got, int want) {
        calls++;
        Due.due("run " + run + ", call " + calls + ": " + call, got, want);
    }

    private void go() {
        while (calls < MOST_CALLS - 20) {
            switch (any(12)) {
                case 0:
                    fillAndRead();
                    break;
                case 1:
                    bagCall();
                    break;
                case 2:
                case 3:
                    swapCall();
                    break;
                case 4:
                case 5:
                    quadCall();
                    break;
                case 6:
                    listCall();
                    break;
                case 7:
                case 8:
                    listedCall();
                    break;
                default:
                    nestCall();
            }
        }
    }

    private void fillAndRead() {
        int[] four = FOURS[any(FOURS.length)];
        if (any(3) == 0) {
            four = grown(four);
        }
        if (any(2) == 0) {
            int far = any(3) == 0 ? 20000 : 40;
            four = Due.moved(four, any(far) - far / 2, any(far) - far / 2);
        }
        int turn = any(4);
        four = Due.ordered(four, turn, (turn + 1) % 4, (turn + 3) % 4, (turn + 2) % 4);
        int r = any(6);
        int kind = any(3);
        int at = any(13);
        due("bag " + r, bench.bag(r, kind, 12 + at), model.bag(r, kind, 12 + at));
        for (int i = 0; i < 12; i++) {
            long v = four[i];
            if (any(60) == 0) {
                v = any(2) == 0 ? v + 1 : v << any(40);
            }
            due("put " + v, bench.put(r, at + i, v), model.put(r, at + i, v));
        }
        due("quad", bench.quad(r, at), model.quad(r, at));
    }

    /** A four of some other nest: some coins swapped, and at some the plane turned inside out. */
    private int[] grown(int[] four) {
        int[] made = four.clone();
        for (int moves = any(8); moves > 0 && greatestOf(made) < 30000; moves--) {
            int i = any(4);
            if (any(2) == 0) {
                swapIn(made, i);
            } else {
                turnInsideOut(made, i);
            }
        }
        // Down by some steps, as most of them stand far above their root.
        for (int steps = any(12); steps > 0; steps--) {
            int i = 0;
            for (int j = 1; j < 4; j++) {
                i = made[j] > made[i] ? j : i;
            }
            int[] before = made.clone();
            swapIn(made, i);
            if (made[i] >= before[i]) {
                return before;
            }
        }
        return made;
    }

    private static int greatestOf(int[] four) {
        int greatest = 0;
        for (int v : four) {
            greatest = Math.max(greatest, Math.abs(v));
        }
        return greatest;
    }

    private static void swapIn(int[] four, int i) {
        for (int w = 0; w < 12; w += 4) {
            four[w + i] = 2 * (four[w] + four[w + 1] + four[w + 2] + four[w + 3]) - 3 * four[w + i];
        }
    }

    /** Coin i becomes the outer one of what lay beside it (or its inside, of what it held). */
    private static void turnInsideOut(int[] four, int i) {
        int sum = 0;
        for (int j = 0; j < 4; j++) {
            sum += j == i ? -four[j] : four[j] + 2 * four[i];
        }
        int sign = sum < 0 ? -1 : 1;
        for (int w = 0; w < 12; w += 4) {
            int turned = four[w + i];
            for (int j = 0; j < 4; j++) {
                four[w + j] = sign * (j == i ? -turned : four[w + j] + 2 * turned);
            }
        }
    }

    private void bagCall() {
        int r = near(6);
        int t = any(3) == 0 ? r : near(6);
        int i = near(14);
        int j = near(14);
        int n = near(14);
        long v = any(2) == 0 ? any(5) : (long) (any(1 << 30) - (1 << 29)) << any(34);
        int kind = near(3);
        switch (any(5)) {
            case 0:
                due("bag " + r + " " + kind + " " + n, bench.bag(r, kind, n * 2), model.bag(r, kind, n * 2));
                break;
            case 1:
                due("put " + r + " " + i + " " + v, bench.put(r, i, v), model.put(r, i, v));
                break;
            case 2:
                due("copy " + r + " " + i + " " + t + " " + j + " " + n,
                    bench.copy(r, i, t, j, n), model.copy(r, i, t, j, n));
                break;
            case 3:
                due("holds " + r + " " + i + " " + v, bench.holds(r, i, v), model.holds(r, i, v));
                break;
            default:
                due("quad " + r + " " + i, bench.quad(r, i), model.quad(r, i));
        }
    }

    private void swapCall() {
        int q = any(2) == 0 ? model.count(0) - 1 : near(model.count(0));
        int i = near(4);
        due("swap " + q + " " + i, bench.swap(q, i), model.swap(q, i));
    }

    private void quadCall() {
        int q = near(model.count(0));
        int r = near(model.count(0));
        int i = near(4);
        int j = near(4);
        int what = near(3);
        int k = near(12);
        switch (any(7)) {
            case 0:
                due("coin " + q + " " + i + " " + what, bench.coin(q, i, what), model.coin(q, i, what));
                break;
            case 1:
                due("from " + q, bench.from(q), model.from(q));
                break;
            case 2:
                due("steps " + q, bench.steps(q), model.steps(q));
                break;
            case 3:
                due("step " + q + " " + k, bench.step(q, k), model.step(q, k));
                break;
            case 4:
                due("root " + q + " " + i + " " + what, bench.root(q, i, what), model.root(q, i, what));
                break;
            case 5:
                due("same " + q + " " + r, bench.same(q, r), model.same(q, r));
                break;
            default:
                due("touch " + q + " " + i + " " + r + " " + j,
                    bench.touch(q, i, r, j), model.touch(q, i, r, j));
        }
    }

    private void listCall() {
        int q = near(model.count(0));
        int most = any(3) == 0 ? near(2001) : near(140);
        due("list " + q + " " + most, bench.list(q, most), model.list(q, most));
    }

    private void listedCall() {
        int i = near(model.count(1));
        int what = near(3);
        int bend = any(2) == 0 ? model.listed(any(240), 0) : near(300);
        switch (any(3)) {
            case 0:
                due("listed " + i + " " + what, bench.listed(i, what), model.listed(i, what));
                break;
            case 1:
                due("find " + bend, bench.find(bend), model.find(bend));
                break;
            default:
                int k = any(2) == 0 ? near(6) : near(60);
                due("left " + k, bench.left(k), model.left(k));
        }
    }

    private void nestCall() {
        int q = near(model.count(0));
        int i = near(4);
        int j = near(4);
        int what = near(3);
        int k = any(2) == 0 ? near(101) - near(101) : near(12) - near(12);
        switch (any(4)) {
            case 0:
                due("seen " + q, bench.seen(q), model.seen(q));
                break;
            case 1:
                due("count " + what, bench.count(what), model.count(what));
                break;
            default:
                due("chain " + q + " " + i + " " + j + " " + k + " " + what,
                    bench.chain(q, i, j, k, what), model.chain(q, i, j, k, what));
        }
    }
}
