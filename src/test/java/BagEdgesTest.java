/** Promises 1 to 5: a test for each sentence that names a boundary case; the sentence stands over it. */
public final class BagEdgesTest {
    private static final int LOW = Integer.MIN_VALUE;
    private static final int HIGH = Integer.MAX_VALUE;
    private static final int[] NO_BAG = {-1, 6, LOW, HIGH};

    public static void main(String[] args) {
        bagsFromZeroToFive();
        noOtherBags();
        missingAtFirst();
        kindsFromZeroToTwo();
        noOtherKinds();
        placesFromZeroToTwentyFour();
        moreThanTwentyFourIsBad();
        lessThanZeroIsSize();
        badAheadOfSize();
        aRefusedBagStays();
        allPlacesAreZero();
        missingAgain();
        ofMissingTheNumberCountsForNothing();
        shortsWrapAround();
        intsWrapAround();
        longsKeepAll();
        putAtTheFirstAndTheLastPlace();
        putBeyond();
        putBadAheadOfNullAheadOfIndex();
        aRefusedPutChangesNothing();
        copyAsItWasAheadOfAll();
        copyNone();
        copyAll();
        copyToTheLastPlace();
        copyBadAheadOfNull();
        copyNullOfEither();
        copyNullAheadOfStore();
        copyStore();
        copyStoreAheadOfIndex();
        copyBelowZero();
        copyBeyondABag();
        copySumsThatWrapAround();
        aRefusedCopyChangesNothing();
        holdsTheWholeNumber();
        holdsBadAheadOfNullAheadOfIndex();
        Due.end();
    }

    // "BAGS 0 to 5"
    private static void bagsFromZeroToFive() {
        TouchingCoins x = new TouchingCoins();
        for (int r = 0; r <= 5; r++) {
            Due.due("bag " + r, x.bag(r, 1, 2), 0);
            Due.due("put " + r, x.put(r, 1, 10 + r), 0);
        }
        for (int r = 0; r <= 5; r++) {
            Due.due("holds its own " + r, x.holds(r, 1, 10 + r), 1);
            Due.due("copy " + r, x.copy(r, 1, 5 - r, 0, 1), 0);
            Due.due("came to " + (5 - r), x.holds(5 - r, 0, 10 + r), 1);
        }
    }

    // "BAGS 0 to 5", "BAD: a number is none that is told"
    private static void noOtherBags() {
        TouchingCoins x = new TouchingCoins();
        x.bag(0, 1, 2);
        for (int r : NO_BAG) {
            Due.due("bag " + r, x.bag(r, 1, 2), -1);
            Due.due("bag to be missing " + r, x.bag(r, -1, 0), -1);
            Due.due("put " + r, x.put(r, 0, 1), -1);
            Due.due("copy from " + r, x.copy(r, 0, 0, 0, 1), -1);
            Due.due("copy to " + r, x.copy(0, 0, r, 0, 1), -1);
            Due.due("holds " + r, x.holds(r, 0, 0), -1);
            Due.due("quad " + r, x.quad(r, 0), -1);
        }
    }

    // "BAGS 0 to 5 are MISSING (at first)"
    private static void missingAtFirst() {
        TouchingCoins x = new TouchingCoins();
        for (int r = 0; r <= 5; r++) {
            Due.due("put " + r, x.put(r, 0, 0), -11);
            Due.due("holds " + r, x.holds(r, 0, 0), -11);
            Due.due("copy " + r, x.copy(r, 0, r, 0, 0), -11);
            Due.due("quad " + r, x.quad(r, 0), -11);
        }
    }

    // "rows of shorts (0), ints (1), longs (2)"
    private static void kindsFromZeroToTwo() {
        long[] most = {Short.MAX_VALUE, Integer.MAX_VALUE, Long.MAX_VALUE};
        for (int kind = 0; kind <= 2; kind++) {
            TouchingCoins x = new TouchingCoins();
            Due.due("kind " + kind, x.bag(0, kind, 1), 0);
            x.put(0, 0, most[kind]);
            Due.due("keeps its greatest", x.holds(0, 0, most[kind]), 1);
            x.put(0, 0, most[kind] + 1);
            Due.due("then its least", x.holds(0, 0, -most[kind] - 1), 1);
        }
    }

    // "kind 0 to 2, or MISSING (-1)"
    private static void noOtherKinds() {
        TouchingCoins x = new TouchingCoins();
        x.bag(0, 1, 2);
        for (int kind : new int[] {-2, 3, LOW, HIGH}) {
            Due.due("kind " + kind, x.bag(0, kind, 2), -1);
            Due.due("kind " + kind + " of none", x.bag(0, kind, 0), -1);
        }
        Due.due("ints yet", x.holds(0, 1, 0), 1);
    }

    // "of 0 to 24 places"
    private static void placesFromZeroToTwentyFour() {
        for (int kind = 0; kind <= 2; kind++) {
            for (int n : new int[] {0, 1, 23, 24}) {
                TouchingCoins x = new TouchingCoins();
                Due.due("bag of " + n, x.bag(3, kind, n), 0);
                Due.due("behind the last", x.put(3, n, 1), -12);
                Due.due("the last", x.put(3, n - 1, 1), n == 0 ? -12 : 0);
            }
        }
    }

    // "BAD: also n above 24"
    private static void moreThanTwentyFourIsBad() {
        for (int kind = 0; kind <= 2; kind++) {
            TouchingCoins x = new TouchingCoins();
            Due.due("25", x.bag(0, kind, 25), -1);
            Due.due("high", x.bag(0, kind, HIGH), -1);
            Due.due("missing yet", x.holds(0, 0, 0), -11);
        }
    }

    // "SIZE -13 a number below 0"
    private static void lessThanZeroIsSize() {
        for (int kind = 0; kind <= 2; kind++) {
            TouchingCoins x = new TouchingCoins();
            Due.due("-1", x.bag(0, kind, -1), -13);
            Due.due("low", x.bag(0, kind, LOW), -13);
            Due.due("missing yet", x.holds(0, 0, 0), -11);
        }
    }

    // "BAD: also n above 24; SIZE." "Of several the first in this order"
    private static void badAheadOfSize() {
        TouchingCoins x = new TouchingCoins();
        for (int r : NO_BAG) {
            Due.due("no bag, below 0", x.bag(r, 0, -1), -1);
        }
        Due.due("no kind, below 0", x.bag(0, 3, -1), -1);
        Due.due("no kind, low", x.bag(0, -2, LOW), -1);
    }

    // "nothing changes then"
    private static void aRefusedBagStays() {
        TouchingCoins x = new TouchingCoins();
        x.bag(2, 0, 3);
        x.put(2, 2, 7);
        x.bag(2, 0, 25);
        x.bag(2, 2, -1);
        x.bag(2, 3, 3);
        x.bag(2, -2, 3);
        Due.due("its number", x.holds(2, 2, 7), 1);
        Due.due("its length", x.holds(2, 3, 0), -12);
        x.put(2, 0, 65537);
        Due.due("its kind", x.holds(2, 0, 1), 1);
    }

    // "becomes a row of n places, all 0"
    private static void allPlacesAreZero() {
        TouchingCoins x = new TouchingCoins();
        for (int kind = 0; kind <= 2; kind++) {
            x.bag(1, kind, 24);
            for (int i = 0; i < 24; i++) {
                x.put(1, i, 5);
            }
            x.bag(1, kind, 24);
            for (int i = 0; i < 24; i++) {
                Due.due("place " + i, x.holds(1, i, 0), 1);
            }
            x.put(1, 23, 5);
            x.bag(1, kind, 1);
            x.bag(1, kind, 24);
            Due.due("the last after a short row", x.holds(1, 23, 0), 1);
            x.put(1, 23, 5);
            x.bag(1, -1, 0);
            x.bag(1, kind, 24);
            Due.due("the last after no row", x.holds(1, 23, 0), 1);
        }
    }

    // "or MISSING (-1 ..)"
    private static void missingAgain() {
        TouchingCoins x = new TouchingCoins();
        for (int r = 0; r <= 5; r++) {
            x.bag(r, 2, 24);
            Due.due("missing " + r, x.bag(r, -1, 24), 0);
            Due.due("put", x.put(r, 0, 0), -11);
            Due.due("quad", x.quad(r, 0), -11);
            Due.due("missing twice", x.bag(r, -1, 24), 0);
        }
    }

    // "MISSING (-1; n counts for nothing)"
    private static void ofMissingTheNumberCountsForNothing() {
        TouchingCoins x = new TouchingCoins();
        for (int n : new int[] {LOW, -1, 0, 24, 25, HIGH}) {
            x.bag(4, 1, 1);
            Due.due("missing of " + n, x.bag(4, -1, n), 0);
            Due.due("is missing", x.holds(4, 0, 0), -11);
        }
    }

    private static void dueKept(int kind, long v, long kept) {
        TouchingCoins x = new TouchingCoins();
        x.bag(0, kind, 1);
        Due.due("put " + v, x.put(0, 0, v), 0);
        Due.due("kept of " + v, x.holds(0, 0, kept), 1);
    }

    // "v, cut to what it keeps": shorts
    private static void shortsWrapAround() {
        dueKept(0, 32767, 32767);
        dueKept(0, 32768, -32768);
        dueKept(0, -32768, -32768);
        dueKept(0, -32769, 32767);
        dueKept(0, 65535, -1);
        dueKept(0, 65536, 0);
        dueKept(0, Long.MAX_VALUE, -1);
        dueKept(0, Long.MIN_VALUE, 0);
    }

    // "v, cut to what it keeps": ints
    private static void intsWrapAround() {
        dueKept(1, 2147483647L, 2147483647L);
        dueKept(1, 2147483648L, -2147483648L);
        dueKept(1, -2147483648L, -2147483648L);
        dueKept(1, -2147483649L, 2147483647L);
        dueKept(1, 4294967295L, -1);
        dueKept(1, 4294967296L, 0);
        dueKept(1, Long.MAX_VALUE, -1);
        dueKept(1, Long.MIN_VALUE, 0);
    }

    // "v, cut to what it keeps": longs
    private static void longsKeepAll() {
        dueKept(2, Long.MAX_VALUE, Long.MAX_VALUE);
        dueKept(2, Long.MIN_VALUE, Long.MIN_VALUE);
        dueKept(2, 4294967296L, 4294967296L);
        dueKept(2, -1, -1);
    }

    // "Place i of a BAG becomes v"
    private static void putAtTheFirstAndTheLastPlace() {
        TouchingCoins x = new TouchingCoins();
        x.bag(0, 1, 24);
        Due.due("first", x.put(0, 0, 1), 0);
        Due.due("last", x.put(0, 23, 2), 0);
        Due.due("first", x.holds(0, 0, 1), 1);
        Due.due("beside it", x.holds(0, 1, 0), 1);
        Due.due("beside the last", x.holds(0, 22, 0), 1);
        Due.due("last", x.holds(0, 23, 2), 1);
    }

    // "INDEX -12 a place beyond it"
    private static void putBeyond() {
        for (int n : new int[] {0, 1, 12, 24}) {
            TouchingCoins x = new TouchingCoins();
            x.bag(0, 1, n);
            for (int i : new int[] {-1, n, n + 1, 24, LOW, HIGH}) {
                Due.due("put at " + i + " of " + n, x.put(0, i, 0), -12);
                Due.due("holds at " + i + " of " + n, x.holds(0, i, 0), -12);
            }
        }
    }

    // put: "BAD; NULL; INDEX"
    private static void putBadAheadOfNullAheadOfIndex() {
        TouchingCoins x = new TouchingCoins();
        x.bag(0, 1, 1);
        Due.due("all", x.put(6, -1, 0), -1);
        Due.due("null and index", x.put(1, -1, 0), -11);
        Due.due("null and index", x.put(1, 24, 0), -11);
        Due.due("index", x.put(0, 1, 0), -12);
    }

    // "nothing changes then"
    private static void aRefusedPutChangesNothing() {
        TouchingCoins x = new TouchingCoins();
        x.bag(0, 1, 2);
        x.bag(1, 1, 2);
        x.put(0, -1, 9);
        x.put(0, 2, 9);
        x.put(0, LOW, 9);
        x.put(2, 0, 9);
        x.put(-1, 0, 9);
        x.put(6, 0, 9);
        for (int r = 0; r < 2; r++) {
            Due.due("first", x.holds(r, 0, 0), 1);
            Due.due("second", x.holds(r, 1, 0), 1);
        }
        Due.due("missing yet", x.holds(2, 0, 0), -11);
        x.bag(0, 1, 3);
        Due.due("nothing behind it", x.holds(0, 2, 0), 1);
    }

    private static TouchingCoins numbered(int kind, int n) {
        TouchingCoins x = new TouchingCoins();
        x.bag(0, kind, n);
        for (int i = 0; i < n; i++) {
            x.put(0, i, 10 + i);
        }
        return x;
    }

    private static void dueRow(TouchingCoins x, int r, int... row) {
        for (int i = 0; i < row.length; i++) {
            Due.due("place " + i + " of bag " + r, x.holds(r, i, row[i]), 1);
        }
    }

    // "(each as it was ahead of all)"
    private static void copyAsItWasAheadOfAll() {
        for (int kind = 0; kind <= 2; kind++) {
            TouchingCoins x = numbered(kind, 6);
            Due.due("one to the right", x.copy(0, 0, 0, 1, 5), 0);
            dueRow(x, 0, 10, 10, 11, 12, 13, 14);
            x = numbered(kind, 6);
            Due.due("one to the left", x.copy(0, 1, 0, 0, 5), 0);
            dueRow(x, 0, 11, 12, 13, 14, 15, 15);
            x = numbered(kind, 6);
            Due.due("three to the right", x.copy(0, 0, 0, 3, 3), 0);
            dueRow(x, 0, 10, 11, 12, 10, 11, 12);
            x = numbered(kind, 6);
            Due.due("to itself", x.copy(0, 2, 0, 2, 3), 0);
            dueRow(x, 0, 10, 11, 12, 13, 14, 15);
        }
    }

    // "n places": none
    private static void copyNone() {
        TouchingCoins x = numbered(1, 3);
        x.bag(1, 1, 0);
        Due.due("none from the end", x.copy(0, 3, 1, 0, 0), 0);
        Due.due("none from a bag of none", x.copy(1, 0, 0, 3, 0), 0);
        Due.due("none in the midst", x.copy(0, 0, 0, 1, 0), 0);
        dueRow(x, 0, 10, 11, 12);
    }

    // "n places": all
    private static void copyAll() {
        TouchingCoins x = numbered(2, 24);
        x.bag(5, 2, 24);
        Due.due("all 24", x.copy(0, 0, 5, 0, 24), 0);
        for (int i = 0; i < 24; i++) {
            Due.due("came " + i, x.holds(5, i, 10 + i), 1);
            Due.due("stayed " + i, x.holds(0, i, 10 + i), 1);
        }
    }

    // "come to BAG t from j on"
    private static void copyToTheLastPlace() {
        TouchingCoins x = numbered(0, 4);
        x.bag(1, 0, 24);
        Due.due("the last to the last", x.copy(0, 3, 1, 23, 1), 0);
        Due.due("came", x.holds(1, 23, 13), 1);
        Due.due("beside it", x.holds(1, 22, 0), 1);
    }

    // copy: "BAD; NULL (of either)"
    private static void copyBadAheadOfNull() {
        TouchingCoins x = numbered(1, 3);
        for (int r : NO_BAG) {
            Due.due("from a missing one", x.copy(1, 0, r, 0, 1), -1);
            Due.due("to a missing one", x.copy(r, 0, 1, 0, 1), -1);
            Due.due("both", x.copy(r, -1, r, -1, -1), -1);
        }
    }

    // copy: "NULL (of either)"
    private static void copyNullOfEither() {
        TouchingCoins x = numbered(1, 3);
        Due.due("from", x.copy(1, 0, 0, 0, 1), -11);
        Due.due("to", x.copy(0, 0, 1, 0, 1), -11);
        Due.due("both", x.copy(1, 0, 2, 0, 1), -11);
        Due.due("twice the one", x.copy(1, 0, 1, 0, 0), -11);
    }

    // copy: "NULL (of either); STORE"
    private static void copyNullAheadOfStore() {
        for (int kind = 0; kind <= 2; kind++) {
            TouchingCoins x = numbered(kind, 3);
            Due.due("from", x.copy(1, -1, 0, -1, -1), -11);
            Due.due("to", x.copy(0, -1, 1, -1, -1), -11);
        }
    }

    // "STORE -14 BAGS of unlike sorts"
    private static void copyStore() {
        TouchingCoins x = new TouchingCoins();
        for (int r = 0; r < 6; r++) {
            x.bag(r, r % 3, 2);
        }
        for (int r = 0; r < 6; r++) {
            for (int t = 0; t < 6; t++) {
                int want = r % 3 == t % 3 ? 0 : -14;
                Due.due("copy " + r + " to " + t, x.copy(r, 0, t, 0, 2), want);
                Due.due("copy none of " + r + " to " + t, x.copy(r, 0, t, 0, 0), want);
            }
        }
    }

    // copy: "STORE; INDEX"
    private static void copyStoreAheadOfIndex() {
        TouchingCoins x = numbered(1, 3);
        x.bag(1, 0, 3);
        Due.due("n", x.copy(0, 0, 1, 0, -1), -14);
        Due.due("i", x.copy(0, -1, 1, 0, 1), -14);
        Due.due("j", x.copy(0, 0, 1, -1, 1), -14);
        Due.due("beyond", x.copy(0, 0, 1, 0, 4), -14);
    }

    // "INDEX: one of n, i, j is below 0"
    private static void copyBelowZero() {
        TouchingCoins x = numbered(1, 3);
        x.bag(1, 1, 3);
        for (int low : new int[] {-1, LOW}) {
            Due.due("n", x.copy(0, 1, 1, 1, low), -12);
            Due.due("i", x.copy(0, low, 1, 1, 1), -12);
            Due.due("j", x.copy(0, 1, 1, low, 1), -12);
            Due.due("i, none", x.copy(0, low, 1, 1, 0), -12);
            Due.due("j, none", x.copy(0, 1, 1, low, 0), -12);
        }
    }

    // "INDEX: .. or they go beyond a BAG"
    private static void copyBeyondABag() {
        TouchingCoins x = numbered(1, 6);
        x.bag(1, 1, 4);
        Due.due("to the end of both", x.copy(0, 2, 1, 0, 4), 0);
        Due.due("one more", x.copy(0, 2, 1, 0, 5), -12);
        Due.due("beyond the first alone", x.copy(0, 3, 1, 0, 4), -12);
        Due.due("beyond the second alone", x.copy(0, 0, 1, 1, 4), -12);
        Due.due("beyond the first as the shorter", x.copy(1, 1, 0, 0, 4), -12);
        Due.due("behind the first", x.copy(0, 6, 1, 0, 1), -12);
        Due.due("behind the second", x.copy(0, 0, 1, 4, 1), -12);
        Due.due("none behind the first", x.copy(0, 7, 1, 0, 0), -12);
        Due.due("none behind the second", x.copy(0, 0, 1, 5, 0), -12);
        x.bag(2, 1, 0);
        Due.due("one of none", x.copy(2, 0, 0, 0, 1), -12);
        Due.due("one to none", x.copy(0, 0, 2, 0, 1), -12);
    }

    // "INDEX: .. beyond a BAG": sums that go beyond an int
    private static void copySumsThatWrapAround() {
        TouchingCoins x = numbered(1, 24);
        x.bag(1, 1, 24);
        Due.due("i + n", x.copy(0, 1, 1, 0, HIGH), -12);
        Due.due("j + n", x.copy(0, 0, 1, 1, HIGH), -12);
        Due.due("i high", x.copy(0, HIGH, 1, 0, 1), -12);
        Due.due("j high", x.copy(0, 0, 1, HIGH, 1), -12);
        Due.due("i and n", x.copy(0, HIGH, 1, 0, HIGH), -12);
        Due.due("all", x.copy(0, HIGH, 1, HIGH, HIGH), -12);
    }

    // "nothing changes then"
    private static void aRefusedCopyChangesNothing() {
        TouchingCoins x = numbered(1, 4);
        x.bag(1, 1, 4);
        x.bag(2, 0, 4);
        x.copy(0, 0, 1, 1, 4);
        x.copy(0, 1, 1, 0, 4);
        x.copy(0, 0, 1, -1, 4);
        x.copy(0, 0, 2, 0, 4);
        x.copy(0, 0, 3, 0, 4);
        x.copy(0, 0, 6, 0, 4);
        x.copy(0, 0, 0, 1, 4);
        dueRow(x, 0, 10, 11, 12, 13);
        dueRow(x, 1, 0, 0, 0, 0);
        dueRow(x, 2, 0, 0, 0, 0);
        Due.due("missing yet", x.holds(3, 0, 0), -11);
    }

    // "1: place i of a BAG holds v; 0"
    private static void holdsTheWholeNumber() {
        TouchingCoins x = new TouchingCoins();
        for (int kind = 0; kind <= 2; kind++) {
            x.bag(kind, kind, 1);
            x.put(kind, 0, -2);
            Due.due("it", x.holds(kind, 0, -2), 1);
            Due.due("one more", x.holds(kind, 0, -1), 0);
            Due.due("one less", x.holds(kind, 0, -3), 0);
            Due.due("what a short would cut", x.holds(kind, 0, 65534), 0);
            Due.due("what an int would cut", x.holds(kind, 0, 4294967294L), 0);
            Due.due("high", x.holds(kind, 0, Long.MAX_VALUE), 0);
            Due.due("low", x.holds(kind, 0, Long.MIN_VALUE), 0);
        }
        Due.due("what was put uncut", x.put(0, 0, 65536), 0);
        Due.due("is not what it holds", x.holds(0, 0, 65536), 0);
        Due.due("but what was cut", x.holds(0, 0, 0), 1);
    }

    // holds: "BAD; NULL; INDEX"
    private static void holdsBadAheadOfNullAheadOfIndex() {
        TouchingCoins x = new TouchingCoins();
        x.bag(0, 1, 1);
        Due.due("all", x.holds(-1, -1, 0), -1);
        Due.due("null and index", x.holds(5, -1, 0), -11);
        Due.due("null and index", x.holds(5, 24, 0), -11);
        Due.due("index", x.holds(0, 1, 0), -12);
        Due.due("index", x.holds(0, -1, 0), -12);
    }
}
