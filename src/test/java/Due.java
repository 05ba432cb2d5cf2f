/** Counts the answers that are not as due, and shortens how tests fill bags. */
final class Due {
    static final int[] SMALL = {-1, 2, 2, 3, 0, 1, -1, 0, 0, 0, 0, 2};
    static final int[] WIDE = {-2, 3, 6, 7, 1, -1, -5, -5, 0, 0, 0, 2};
    static final int[] UNLIKE = {-6, 11, 14, 15, 2, -3, -6, -5, 3, -6, -7, -6};
    // Its root has a bend 0: two coins of bend 1 on a line, and what stands between them.
    static final int[] LINED = {12, 1, 1, 4, 12, 0, 2, 4, 7, 1, 1, 1};

    private static int wrong = 0;

    private Due() {
    }

    static void due(String call, long got, long want) {
        if (got != want) {
            wrong++;
            System.out.println(call + " answered " + got + ", due is " + want);
        }
    }

    static void end() {
        System.out.println(wrong == 0 ? "all answers are as due" : wrong + " answers are not as due");
        if (wrong != 0) {
            System.exit(1);
        }
    }

    /** Fills bag 5 with twelve numbers and answers what quad() makes of them. */
    static int quad(TouchingCoins bench, long... twelve) {
        due("bag for a quad", bench.bag(5, 2, 12), 0);
        for (int i = 0; i < 12; i++) {
            due("put for a quad", bench.put(5, i, twelve[i]), 0);
        }
        return bench.quad(5, 0);
    }

    static int quad(TouchingCoins bench, int[] twelve) {
        long[] wide = new long[12];
        for (int i = 0; i < 12; i++) {
            wide[i] = twelve[i];
        }
        return quad(bench, wide);
    }

    static TouchingCoins with(int[] twelve) {
        TouchingCoins bench = new TouchingCoins();
        due("quad of a new bench", quad(bench, twelve), 0);
        return bench;
    }

    /** The same four, moved by whole numbers. */
    static int[] moved(int[] twelve, int right, int up) {
        int[] made = twelve.clone();
        for (int i = 0; i < 4; i++) {
            made[4 + i] += right * twelve[i];
            made[8 + i] += up * twelve[i];
        }
        return made;
    }

    /** The same four, with coin order[i] at i. */
    static int[] ordered(int[] twelve, int... order) {
        int[] made = new int[12];
        for (int i = 0; i < 12; i++) {
            made[i] = twelve[i / 4 * 4 + order[i % 4]];
        }
        return made;
    }

    static void dueCoin(String name, TouchingCoins bench, int q, int i, int bend, int x, int y) {
        due(name + " bend", bench.coin(q, i, 0), bend);
        due(name + " x", bench.coin(q, i, 1), x);
        due(name + " y", bench.coin(q, i, 2), y);
    }
}
