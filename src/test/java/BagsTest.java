/** Promises 1 to 5: a new object, bag, put, copy, holds. */
public final class BagsTest {
    private static final int LOW = Integer.MIN_VALUE;
    private static final int HIGH = Integer.MAX_VALUE;

    public static void main(String[] args) {
        newObject();
        bagMakes();
        bagRefuses();
        putCuts();
        putAndHoldsRefuse();
        copyMoves();
        copyRefuses();
        Due.end();
    }

    private static void newObject() {
        TouchingCoins x = new TouchingCoins();
        for (int r = 0; r < 6; r++) {
            Due.due("new put", x.put(r, 0, 1), -11);
            Due.due("new holds", x.holds(r, 0, 0), -11);
            Due.due("new quad", x.quad(r, 0), -11);
            Due.due("new copy", x.copy(r, 0, r, 0, 0), -11);
        }
        Due.due("new count 0", x.count(0), 0);
        Due.due("new count 1", x.count(1), 0);
        Due.due("new count 2", x.count(2), 0);
        Due.due("new coin", x.coin(0, 0, 0), -20000000);
        Due.due("BAD", TouchingCoins.BAD, -1);
        Due.due("FULL", TouchingCoins.FULL, -2);
        Due.due("NONE", TouchingCoins.NONE, -3);
        Due.due("MANY", TouchingCoins.MANY, -4);
    }

    private static void bagMakes() {
        TouchingCoins x = new TouchingCoins();
        Due.due("bag 24", x.bag(0, 0, 24), 0);
        Due.due("place 23", x.holds(0, 23, 0), 1);
        Due.due("place 24", x.holds(0, 24, 0), -12);
        Due.due("put 23", x.put(0, 23, 7), 0);
        Due.due("bag again", x.bag(0, 0, 24), 0);
        Due.due("place is 0 again", x.holds(0, 23, 0), 1);
        Due.due("put 5", x.put(0, 5, 7), 0);
        Due.due("shorter", x.bag(0, 2, 5), 0);
        Due.due("longer", x.bag(0, 2, 6), 0);
        Due.due("place 5 is 0", x.holds(0, 5, 0), 1);
        Due.due("bag of none", x.bag(5, 1, 0), 0);
        Due.due("no place", x.holds(5, 0, 0), -12);
        Due.due("missing", x.bag(0, -1, 3), 0);
        Due.due("is missing", x.holds(0, 0, 0), -11);
        Due.due("the other stays", x.holds(5, 0, 0), -12);
        int[] anyLength = {-5, 0, 24, 25, LOW, HIGH};
        for (int n : anyLength) {
            x.bag(5, 1, 1);
            Due.due("missing of " + n, x.bag(5, -1, n), 0);
            Due.due("missing now", x.holds(5, 0, 0), -11);
        }
    }

    private static void bagRefuses() {
        TouchingCoins x = new TouchingCoins();
        x.bag(1, 1, 3);
        x.put(1, 0, 9);
        int[] noBag = {-1, 6, LOW, HIGH};
        for (int r : noBag) {
            Due.due("no bag " + r, x.bag(r, 1, 1), -1);
            Due.due("no bag to miss " + r, x.bag(r, -1, 1), -1);
            Due.due("no bag, size " + r, x.bag(r, 1, -1), -1);
        }
        int[] noKind = {-2, 3, LOW, HIGH};
        for (int kind : noKind) {
            Due.due("no kind " + kind, x.bag(1, kind, 3), -1);
            Due.due("no kind, size " + kind, x.bag(1, kind, -1), -1);
        }
        for (int kind = 0; kind <= 2; kind++) {
            Due.due("25", x.bag(1, kind, 25), -1);
            Due.due("high", x.bag(1, kind, HIGH), -1);
            Due.due("-1", x.bag(1, kind, -1), -13);
            Due.due("low", x.bag(1, kind, LOW), -13);
        }
        Due.due("nothing changed", x.holds(1, 0, 9), 1);
        Due.due("nothing longer", x.holds(1, 3, 0), -12);
    }

    private static void putCuts() {
        TouchingCoins x = new TouchingCoins();
        long[] told = {0, -1, 32767, 32768, 65535, 65536, -32769, 2147483647L, 2147483648L,
            -2147483649L, 4294967296L, Long.MAX_VALUE, Long.MIN_VALUE};
        for (int kind = 0; kind <= 2; kind++) {
            x.bag(kind, kind, 3);
            for (long v : told) {
                long kept = kind == 0 ? (short) v : kind == 1 ? (int) v : v;
                Due.due("put " + v, x.put(kind, 1, v), 0);
                Due.due("holds cut " + v, x.holds(kind, 1, kept), 1);
                Due.due("holds uncut " + v, x.holds(kind, 1, v), kept == v ? 1 : 0);
                Due.due("holds one more", x.holds(kind, 1, kept + 1), 0);
                Due.due("before stays", x.holds(kind, 0, 0), 1);
                Due.due("behind stays", x.holds(kind, 2, 0), 1);
            }
        }
    }

    private static void putAndHoldsRefuse() {
        TouchingCoins x = new TouchingCoins();
        x.bag(2, 1, 4);
        int[] noBag = {-1, 6, LOW, HIGH};
        for (int r : noBag) {
            Due.due("put, no bag", x.put(r, -1, 0), -1);
            Due.due("holds, no bag", x.holds(r, -1, 0), -1);
        }
        int[] noPlace = {-1, 4, 24, LOW, HIGH};
        for (int i : noPlace) {
            Due.due("put, no place", x.put(2, i, 0), -12);
            Due.due("holds, no place", x.holds(2, i, 0), -12);
            Due.due("put, missing", x.put(3, i, 0), -11);
            Due.due("holds, missing", x.holds(3, i, 0), -11);
        }
    }

    private static void copyMoves() {
        TouchingCoins x = new TouchingCoins();
        for (int kind = 0; kind <= 2; kind++) {
            x.bag(0, kind, 6);
            x.bag(1, kind, 24);
            for (int i = 0; i < 6; i++) {
                x.put(0, i, 10 + i);
            }
            Due.due("copy", x.copy(0, 2, 1, 20, 4), 0);
            Due.due("before", x.holds(1, 19, 0), 1);
            for (int i = 0; i < 4; i++) {
                Due.due("came", x.holds(1, 20 + i, 12 + i), 1);
                Due.due("stayed", x.holds(0, 2 + i, 12 + i), 1);
            }
            Due.due("right", x.copy(0, 0, 0, 1, 5), 0);
            for (int i = 1; i < 6; i++) {
                Due.due("went right", x.holds(0, i, 9 + i), 1);
            }
            Due.due("left", x.copy(0, 2, 0, 0, 4), 0);
            for (int i = 0; i < 4; i++) {
                Due.due("went left", x.holds(0, i, 11 + i), 1);
            }
            Due.due("none at the end", x.copy(0, 6, 1, 24, 0), 0);
            Due.due("all", x.copy(0, 0, 0, 0, 6), 0);
        }
    }

    private static void copyRefuses() {
        TouchingCoins x = new TouchingCoins();
        x.bag(0, 1, 6);
        x.bag(1, 1, 4);
        x.bag(2, 0, 6);
        x.bag(4, 2, 6);
        x.put(0, 0, 5);
        int[] noBag = {-1, 6, LOW, HIGH};
        for (int r : noBag) {
            Due.due("from no bag", x.copy(r, -1, 3, -1, -1), -1);
            Due.due("to no bag", x.copy(3, -1, r, -1, -1), -1);
        }
        Due.due("from missing", x.copy(3, -1, 0, -1, -1), -11);
        Due.due("to missing", x.copy(0, -1, 3, -1, -1), -11);
        Due.due("int to short", x.copy(0, -1, 2, -1, -1), -14);
        Due.due("short to long", x.copy(2, 0, 4, 0, 0), -14);
        Due.due("long to int", x.copy(4, 0, 0, 0, 1), -14);
        int[] below = {-1, LOW};
        for (int n : below) {
            Due.due("n below", x.copy(0, 0, 1, 0, n), -12);
            Due.due("i below", x.copy(0, n, 1, 0, 0), -12);
            Due.due("j below", x.copy(0, 0, 1, n, 0), -12);
        }
        Due.due("beyond the first", x.copy(1, 1, 0, 0, 4), -12);
        Due.due("beyond the second", x.copy(0, 0, 1, 1, 4), -12);
        Due.due("none beyond the first", x.copy(0, 7, 1, 0, 0), -12);
        Due.due("none beyond the second", x.copy(0, 0, 1, 5, 0), -12);
        Due.due("n high", x.copy(0, 1, 1, 1, HIGH), -12);
        Due.due("i high", x.copy(0, HIGH, 1, 0, 1), -12);
        Due.due("j high", x.copy(0, 0, 1, HIGH, 1), -12);
        Due.due("all high", x.copy(0, HIGH, 1, HIGH, HIGH), -12);
        Due.due("nothing came", x.holds(1, 0, 0), 1);
        Due.due("nothing came beyond", x.holds(1, 1, 0), 1);
    }
}
