/** Promises 6 to 14: a test for each sentence that names a boundary case; the sentence stands over it. */
public final class QuadEdgesTest {
    private static final int LOW = Integer.MIN_VALUE;
    private static final int HIGH = Integer.MAX_VALUE;
    private static final int BAD = -20000000;
    private static final int[] NO_COIN = {-1, 4, LOW, HIGH};
    private static final int[] NO_WHAT = {-1, 3, LOW, HIGH};
    // A swap of its coin 2 makes a bend of 20000, the greatest that there may be.
    private static final int[] HIGHEST = {869, 2301, 332, 6996, 8, 24, 3, 69, -391, -1033, -148, -3140};
    // A swap of its coin 1 makes a bend of 20001.
    private static final int[] HIGHER = {5100, 1, 1, 4900, 5100, 0, 2, 4900, 4999, 1, 1, 4801};

    public static void main(String[] args) {
        twelvePlacesFromTheFirst();
        twelvePlacesToTheLast();
        fewerPlacesAreIndex();
        quadBadAheadOfNullAheadOfIndex();
        bendZero();
        bendsBeyond();
        bendsAtTheBounds();
        placesBeyond();
        placesAtTheBounds();
        quadsBeyondByOne();
        bendsThatDoNotStand();
        sumsNotAboveZero();
        twoBendsBelowZero();
        oneBendBelowZeroOrNone();
        aWholeThatDividesAll();
        aWholeThatDividesSome();
        twoThatDoNotTouch();
        theFirstOfTheRefusals();
        aRefusedQuadTakesNoNumber();
        sixtyAtMost();
        fullComesLast();
        neverChanged();
        swapMakesTheOther();
        swapOfEachCoin();
        swapBad();
        swapBendAtItsBound();
        swapBendZero();
        swapPlacesAtTheirBounds();
        swapBendAheadOfPlace();
        swapFullComesLast();
        aRefusedSwapTakesNoNumber();
        coinBad();
        fromNone();
        fromBad();
        stepsOfARoot();
        stepsThatAreNotLess();
        ofSeveralTheFirst();
        downByWayOfBendZero();
        stepsBad();
        stepNone();
        stepBad();
        rootBad();
        rootWithBendZero();
        rootOfARoot();
        sameInWhateverOrder();
        sameByBendsAlone();
        sameOfOne();
        sameBad();
        touchOfOneQuad();
        touchFarApart();
        touchThatWouldWrapAround();
        touchBad();
        Due.end();
    }

    private static TouchingCoins told(int[] twelve, int places, int from) {
        TouchingCoins x = new TouchingCoins();
        x.bag(0, 1, places);
        for (int i = 0; i < 12; i++) {
            x.put(0, from + i, twelve[i]);
        }
        return x;
    }

    // "The QUAD of which twelve places of a BAG from i on tell"
    private static void twelvePlacesFromTheFirst() {
        for (int n = 12; n <= 24; n++) {
            TouchingCoins x = told(Due.WIDE, n, 0);
            Due.due("from 0 of " + n, x.quad(0, 0), 0);
            Due.dueCoin("the last one", x, 0, 3, 7, -5, 2);
        }
    }

    // "twelve places of a BAG from i on": the last twelve
    private static void twelvePlacesToTheLast() {
        for (int n = 12; n <= 24; n++) {
            TouchingCoins x = told(Due.WIDE, n, n - 12);
            Due.due("the last twelve of " + n, x.quad(0, n - 12), 0);
            Due.dueCoin("the first one", x, 0, 0, -2, 1, 0);
        }
    }

    // quad: "INDEX"
    private static void fewerPlacesAreIndex() {
        for (int n : new int[] {12, 13, 24}) {
            TouchingCoins x = told(Due.WIDE, n, 0);
            Due.due("eleven of " + n, x.quad(0, n - 11), -12);
            Due.due("from behind", x.quad(0, n), -12);
            Due.due("from -1", x.quad(0, -1), -12);
            Due.due("low", x.quad(0, LOW), -12);
            Due.due("high", x.quad(0, HIGH), -12);
            Due.due("high by twelve", x.quad(0, HIGH - 11), -12);
        }
        for (int n : new int[] {0, 1, 11}) {
            TouchingCoins x = new TouchingCoins();
            x.bag(0, 2, n);
            Due.due("a bag of " + n, x.quad(0, 0), -12);
        }
    }

    // quad: "BAD; NULL; INDEX; then the first of these"
    private static void quadBadAheadOfNullAheadOfIndex() {
        TouchingCoins x = new TouchingCoins();
        x.bag(0, 0, 12);
        for (int r : new int[] {-1, 6, LOW, HIGH}) {
            Due.due("all", x.quad(r, -1), -1);
        }
        Due.due("null and index", x.quad(1, -1), -11);
        Due.due("null and index", x.quad(1, 13), -11);
        Due.due("index and bend", x.quad(0, 1), -12);
        Due.due("bend", x.quad(0, 0), -15);
    }

    private static int quadBut(int[] four, int place, long v) {
        long[] twelve = new long[12];
        for (int i = 0; i < 12; i++) {
            twelve[i] = four[i];
        }
        twelve[place] = v;
        return Due.quad(new TouchingCoins(), twelve);
    }

    // "-15 a BEND is 0"
    private static void bendZero() {
        for (int i = 0; i < 4; i++) {
            Due.due("bend 0 of coin " + i, quadBut(Due.SMALL, i, 0), -15);
        }
        // They stand and touch, and two of them are lines.
        Due.due("lines", Due.quad(new TouchingCoins(), 0, 0, 1, 1, 0, 0, 0, 2, -1, 1, 0, 0), -15);
    }

    // "-15 a BEND is .. beyond the bounds"
    private static void bendsBeyond() {
        long[] beyond = {20001, -20001, 65537, 4294967298L, Long.MAX_VALUE, Long.MIN_VALUE};
        for (int i = 0; i < 4; i++) {
            for (long bend : beyond) {
                Due.due("bend " + bend + " of coin " + i, quadBut(Due.SMALL, i, bend), -15);
            }
        }
        int[] made = HIGHER.clone();
        made[1] = 20001;
        made[5] = 20000;
        made[9] = 19601;
        Due.due("a true four with 20001", Due.quad(new TouchingCoins(), made), -15);
    }

    // "from -20000 to 20000"
    private static void bendsAtTheBounds() {
        for (int i = 0; i < 4; i++) {
            for (int bend : new int[] {20000, -20000, 1, -1}) {
                int got = quadBut(Due.UNLIKE, i, bend);
                Due.due("bend " + bend + " of coin " + i, got, -17);
            }
        }
        TouchingCoins x = Due.with(HIGHEST);
        x.swap(0, 2);
        int[] made = new int[12];
        for (int i = 0; i < 12; i++) {
            made[i] = x.coin(1, i % 4, i / 4);
        }
        Due.due("20000 is there", made[2], 20000);
        for (int first = 0; first < 4; first++) {
            int[] turned = Due.ordered(made, first, (first + 1) % 4, (first + 2) % 4, (first + 3) % 4);
            Due.due("a true four with 20000", Due.quad(new TouchingCoins(), turned), 0);
        }
    }

    // "-16 a PLACE beyond them"
    private static void placesBeyond() {
        long[] beyond = {50001, -50001, 65536, 4294967296L, Long.MAX_VALUE, Long.MIN_VALUE};
        for (int i = 4; i < 12; i++) {
            for (long place : beyond) {
                Due.due("place " + place + " at " + i, quadBut(Due.SMALL, i, place), -16);
            }
        }
    }

    // "wholes from -50000 to 50000"
    private static void placesAtTheBounds() {
        for (int i = 4; i < 12; i++) {
            Due.due("50000 at " + i, quadBut(Due.SMALL, i, 50000), -20);
            Due.due("-50000 at " + i, quadBut(Due.SMALL, i, -50000), -20);
        }
        dueTrueFour(0, -6, 11, 14, 15, 20000, -36666, -46668, -50000, -13161, 24128, 30709, 32904);
        dueTrueFour(0, 40, 1, 1, 24, 50000, 1249, 1251, 30000, 19271, 482, 482, 11561);
        dueTrueFour(0, -22, 23, 510, 515, -638, 667, 14786, 14929, 2135, -2232, -49515, -50000);
        dueTrueFour(0, -1, 6, 2, 11, -3706, 22233, 7411, 40758, -4546, 27272, 9092, 50000);
    }

    // "-16 a PLACE beyond them": of four that stand and touch
    private static void quadsBeyondByOne() {
        dueTrueFour(-16, 45, 5, 108, 8, -20835, -2315, -50001, -3703, 19916, 2214, 47800, 3540);
        dueTrueFour(-16, 45, 5, 8, 108, 20835, 2315, 3703, 50001, 11771, 1309, 2092, 28252);
        dueTrueFour(-16, 34, 3, 6, 79, 963, 86, 169, 2238, -21518, -1899, -3798, -50001);
        dueTrueFour(-16, -1, 6, 2, 11, -3124, 18741, 6247, 34356, -4545, 27274, 9090, 50001);
    }

    /** Four coins that stand and touch, in each order. */
    private static void dueTrueFour(int want, int... twelve) {
        for (int first = 0; first < 4; first++) {
            int[] turned = Due.ordered(twelve, first, (first + 1) % 4, (first + 2) % 4, (first + 3) % 4);
            Due.due("a true four", Due.quad(new TouchingCoins(), turned), want);
        }
    }

    // "-17 BENDS do not stand so"
    private static void bendsThatDoNotStand() {
        for (int[] four : new int[][] {Due.SMALL, Due.WIDE, Due.UNLIKE, HIGHEST}) {
            for (int i = 0; i < 4; i++) {
                if (four[i] != -1) {
                    Due.due("one more", quadBut(four, i, four[i] + 1), -17);
                }
                if (four[i] != 1) {
                    Due.due("one less", quadBut(four, i, four[i] - 1), -17);
                }
                Due.due("the other sign", quadBut(four, i, -four[i]), -17);
            }
        }
        Due.due("all alike", Due.quad(new TouchingCoins(), 1, 1, 1, 1, 0, 0, 0, 0, 0, 0, 0, 0), -17);
        Due.due("all at the bound", Due.quad(new TouchingCoins(), 20000, 20000, 20000, 20000,
            0, 0, 0, 0, 0, 0, 0, 0), -17);
    }

    // "-17 .. or their sum is not above 0"
    private static void sumsNotAboveZero() {
        for (int[] four : new int[][] {Due.SMALL, Due.WIDE, Due.UNLIKE, Due.LINED, HIGHEST}) {
            int[] turned = four.clone();
            for (int i = 0; i < 12; i++) {
                turned[i] = -turned[i];
            }
            Due.due("all with the other sign", Due.quad(new TouchingCoins(), turned), -17);
        }
        Due.due("a sum of 0", Due.quad(new TouchingCoins(), 1, -1, 2, -2, 0, 0, 0, 0, 0, 0, 0, 0), -17);
    }

    // "-18 more than one BEND is below 0": -17 stands ahead of it, and four that stand have one at most
    private static void twoBendsBelowZero() {
        for (int a = -6; a < 0; a++) {
            for (int b = -6; b < 0; b++) {
                int got = Due.quad(new TouchingCoins(), a, b, 7, 9, 0, 0, 0, 0, 0, 0, 0, 0);
                Due.due("two below 0", got, -17);
            }
        }
        Due.due("four below 0", Due.quad(new TouchingCoins(), -1, -2, -2, -3,
            0, 0, 0, 0, 0, 0, 0, 0), -17);
    }

    // "one BEND at most is below 0"
    private static void oneBendBelowZeroOrNone() {
        dueTrueFour(0, -1, 2, 2, 3, 0, 1, -1, 0, 0, 0, 0, 2);
        dueTrueFour(0, 15, 2, 2, 3, 0, 1, -1, 0, 4, 0, 0, 2);
    }

    // "-19 there is a whole above 1 that divides all"
    private static void aWholeThatDividesAll() {
        for (int times : new int[] {2, 3, 4, 5, 7, 49, 6666}) {
            // The same centres of coins that are smaller: they stand and touch.
            int[] made = Due.SMALL.clone();
            for (int i = 0; i < 4; i++) {
                made[i] *= times;
            }
            dueTrueFour(-19, made);
        }
        dueTrueFour(-19, -4, 6, 12, 14, 1, -1, -5, -5, 0, 0, 0, 2);
    }

    // "no whole above 1 divides all four": some may have one
    private static void aWholeThatDividesSome() {
        dueTrueFour(0, -2, 3, 6, 7, 1, -1, -5, -5, 0, 0, 0, 2);
        dueTrueFour(0, -6, 11, 14, 15, 2, -3, -6, -5, 3, -6, -7, -6);
        dueTrueFour(0, -3, 5, 8, 8, 0, 0, -1, 1, 1, -1, -4, -4);
    }

    // "-20 two do not TOUCH": each two in turn, while all others do
    private static void twoThatDoNotTouch() {
        int[][] orders = {{0, 1, 2, 3}, {0, 2, 1, 3}, {0, 2, 3, 1}, {2, 0, 1, 3}, {2, 0, 3, 1}, {2, 3, 0, 1}};
        int[] inOnePlace = {2, 2, -1, 3, 1, 1, 0, 0, 0, 0, 0, 2};
        for (int[] order : orders) {
            Due.due("in one place", Due.quad(new TouchingCoins(), Due.ordered(inOnePlace, order)), -20);
        }
        for (int i = 4; i < 12; i++) {
            Due.due("one to the right at " + i, quadBut(Due.UNLIKE, i, Due.UNLIKE[i] + 1), -20);
            Due.due("one to the left at " + i, quadBut(Due.UNLIKE, i, Due.UNLIKE[i] - 1), -20);
        }
    }

    // "then the first of these: -15 .. -16 .. -17 .. -19 .. -20 .."
    private static void theFirstOfTheRefusals() {
        TouchingCoins x = new TouchingCoins();
        Due.due("-15 and all", Due.quad(x, -2, -4, 4, 0, 0, 0, 0, 0, 0, 0, 0, 60000), -15);
        Due.due("-15 behind a place", Due.quad(x, 2, 4, 4, 20001, 60000, 0, 0, 0, 0, 0, 0, 0), -15);
        Due.due("-16, -17, -18, -19, -20", Due.quad(x, -2, -4, 4, 8, 0, 0, 0, 0, 0, 0, 0, 60000), -16);
        Due.due("-16 and -19", Due.quad(x, -2, 4, 4, 6, 0, 0, 0, 60000, 0, 0, 0, 0), -16);
        Due.due("-16 and -20", Due.quad(x, -1, 2, 2, 3, 0, 0, 0, 0, -60000, 0, 0, 0), -16);
        Due.due("-17, -18, -19, -20", Due.quad(x, -2, -4, 4, 8, 0, 0, 0, 0, 0, 0, 0, 0), -17);
        Due.due("-17 and -19", Due.quad(x, 2, 4, 4, 6, 0, 2, -2, 0, 0, 0, 0, 4), -17);
        Due.due("-17 and -20", Due.quad(x, 1, 2, 2, 3, 0, 0, 0, 0, 0, 0, 0, 0), -17);
        Due.due("-19 and -20", Due.quad(x, -2, 4, 4, 6, 0, 0, 0, 0, 0, 0, 0, 0), -19);
        Due.due("-20", Due.quad(x, -1, 2, 2, 3, 0, 0, 0, 0, 0, 0, 0, 0), -20);
        Due.due("no quads", x.count(0), 0);
    }

    // "its number"; "nothing changes then"
    private static void aRefusedQuadTakesNoNumber() {
        TouchingCoins x = new TouchingCoins();
        Due.due("the first", Due.quad(x, Due.SMALL), 0);
        Due.due("refused", Due.quad(x, -2, 4, 4, 6, 0, 0, 0, 0, 0, 0, 0, 0), -19);
        Due.due("refused", x.quad(5, 1), -12);
        Due.due("refused", x.quad(4, 0), -11);
        Due.due("one", x.count(0), 1);
        Due.due("no second", x.coin(1, 0, 0), BAD);
        Due.due("the second", Due.quad(x, Due.WIDE), 1);
        Due.dueCoin("the first yet", x, 0, 3, 3, 0, 2);
    }

    private static TouchingCoins full() {
        TouchingCoins x = Due.with(Due.LINED);
        for (int q = 1; q < 60; q++) {
            Due.due("room for " + q, x.quad(5, 0), q);
        }
        return x;
    }

    // "60 at most"; "FULL"
    private static void sixtyAtMost() {
        TouchingCoins x = full();
        Due.due("60", x.count(0), 60);
        Due.due("the 61st", x.quad(5, 0), -2);
        Due.due("the 61st by a swap", x.swap(0, 3), -2);
        Due.due("the 61st by a swap of the last", x.swap(59, 3), -2);
        Due.due("60 yet", x.count(0), 60);
        Due.dueCoin("the last", x, 59, 0, 12, 12, 7);
        Due.due("none behind it", x.coin(60, 0, 0), BAD);
    }

    // "FULL" behind all others
    private static void fullComesLast() {
        TouchingCoins x = full();
        Due.due("bad", x.quad(6, 0), -1);
        Due.due("null", x.quad(4, 0), -11);
        Due.due("index", x.quad(5, 1), -12);
        Due.due("-15", Due.quad(x, 0, 2, 2, 3, 0, 1, -1, 0, 0, 0, 0, 2), -15);
        Due.due("-16", Due.quad(x, -1, 2, 2, 3, 50001, 1, -1, 0, 0, 0, 0, 2), -16);
        Due.due("-17", Due.quad(x, -1, 2, 2, 4, 0, 1, -1, 0, 0, 0, 0, 2), -17);
        Due.due("-19", Due.quad(x, -2, 4, 4, 6, 0, 1, -1, 0, 0, 0, 0, 2), -19);
        Due.due("-20", Due.quad(x, -1, 2, 2, 3, 0, 1, 1, 0, 0, 0, 0, 2), -20);
        Due.due("full", Due.quad(x, Due.SMALL), -2);
    }

    // "QUADS .. never changed"
    private static void neverChanged() {
        TouchingCoins x = Due.with(Due.UNLIKE);
        for (int i = 0; i < 12; i++) {
            x.put(5, i, 1);
        }
        for (int i = 0; i < 4; i++) {
            x.swap(0, i);
        }
        x.swap(1, 0);
        x.list(3, 100);
        x.step(4, 0);
        x.chain(0, 0, 1, 5, 0);
        x.bag(5, -1, 0);
        for (int i = 0; i < 12; i++) {
            Due.due("coins of 0", x.coin(0, i % 4, i / 4), Due.UNLIKE[i]);
            Due.due("coins of 5, swapped back", x.coin(5, i % 4, i / 4), Due.UNLIKE[i]);
        }
        Due.dueCoin("coin of 1", x, 1, 0, 86, -30, -41);
        Due.dueCoin("coin of 4", x, 4, 3, 23, -9, -14);
    }

    // "each twice the sum of those of the other three, less its own"
    private static void swapMakesTheOther() {
        TouchingCoins x = Due.with(Due.SMALL);
        Due.due("swap", x.swap(0, 3), 1);
        Due.dueCoin("the same bend on the other side", x, 1, 3, 3, 0, -2);
        Due.due("swap back", x.swap(1, 3), 2);
        Due.dueCoin("as it was", x, 2, 3, 3, 0, 2);
    }

    // "COIN i (0 to 3)"
    private static void swapOfEachCoin() {
        for (int i = 0; i < 4; i++) {
            TouchingCoins x = Due.with(Due.WIDE);
            Due.due("swap " + i, x.swap(0, i), 1);
            for (int j = 0; j < 4; j++) {
                int other = 2 * (Due.WIDE[0] + Due.WIDE[1] + Due.WIDE[2] + Due.WIDE[3]) - 3 * Due.WIDE[i];
                Due.due("bend " + j, x.coin(1, j, 0), i == j ? other : Due.WIDE[j]);
            }
        }
    }

    // swap: "BAD"
    private static void swapBad() {
        TouchingCoins x = new TouchingCoins();
        Due.due("no quads", x.swap(0, 0), -1);
        x = Due.with(Due.SMALL);
        for (int q : new int[] {-1, 1, 59, 60, LOW, HIGH}) {
            Due.due("quad " + q, x.swap(q, 0), -1);
        }
        for (int i : NO_COIN) {
            Due.due("coin " + i, x.swap(0, i), -1);
        }
        Due.due("no new one", x.count(0), 1);
        Due.due("the first there is", x.swap(0, 0), 1);
        Due.due("the last there is", x.swap(1, 3), 2);
    }

    private static void dueSwap(int want, int i, int... twelve) {
        TouchingCoins x = Due.with(twelve);
        Due.due("swap at a bound", x.swap(0, i), want);
        Due.due("quads", x.count(0), want > 0 ? 2 : 1);
    }

    // "-15 .. it would be beyond the bounds"
    private static void swapBendAtItsBound() {
        dueSwap(1, 2, HIGHEST);
        dueSwap(-15, 1, HIGHER);
        TouchingCoins x = Due.with(HIGHEST);
        x.swap(0, 2);
        Due.dueCoin("at the bound", x, 1, 2, 20000, 199, -8980);
        Due.due("over it", x.swap(1, 0), -15);
    }

    // "-15 .. (as in quad())": a bend 0 too
    private static void swapBendZero() {
        dueSwap(-15, 0, Due.LINED);
        dueSwap(-15, 3, Due.ordered(Due.LINED, 1, 2, 3, 0));
        dueSwap(1, 3, Due.LINED);
    }

    // "-16: it would be beyond the bounds"
    private static void swapPlacesAtTheirBounds() {
        dueSwap(1, 1, -6, 11, 14, 15, -8572, 15716, 20000, 21430, 2613, -4791, -6097, -6531);
        dueSwap(-16, 3, 45, 5, 8, 8, 20835, 2315, 3703, 3705, -6859, -761, -1220, -1220);
        dueSwap(1, 2, -3, 21, 8, 8, 3410, -23864, -9092, -9092, -993, 6951, 2647, 2649);
        dueSwap(-16, 2, 232, 1, 33, 88, -19048, -83, -2709, -7224, 12191, 53, 1733, 4625);
        dueSwap(1, 2, -3, 21, 8, 8, 132, -924, -353, -351, -3410, 23864, 9092, 9092);
        dueSwap(-16, 1, 177, 48, 473, 20, -34, -8, -88, -4, 6849, 1857, 18305, 775);
        dueSwap(1, 3, 287, 38, 110, 3, 12325, 1631, 4725, 129, -16550, -2192, -6344, -172);
        dueSwap(-16, 2, -1, 2, 2, 3, 4032, -8064, -8064, -12098, 8334, -16667, -16669, -25002);
    }

    // "-15, -16": the first of both
    private static void swapBendAheadOfPlace() {
        dueSwap(-15, 1, Due.moved(HIGHER, 3, 0));
        dueSwap(-15, 1, Due.moved(HIGHER, 0, -9));
    }

    // swap: "BAD. -15, -16 .. FULL."
    private static void swapFullComesLast() {
        TouchingCoins x = Due.with(Due.moved(Due.SMALL, 16666, 0));
        Due.due("lines", Due.quad(x, Due.LINED), 1);
        for (int q = 2; q < 60; q++) {
            Due.due("room for " + q, x.quad(5, 0), q);
        }
        Due.due("bad quad", x.swap(60, 0), -1);
        Due.due("bad coin", x.swap(0, 4), -1);
        Due.due("-15", x.swap(1, 0), -15);
        Due.due("-16", x.swap(0, 1), -16);
        Due.due("full", x.swap(0, 3), -2);
    }

    // "nothing changes then"
    private static void aRefusedSwapTakesNoNumber() {
        TouchingCoins x = Due.with(Due.LINED);
        Due.due("refused", x.swap(0, 0), -15);
        Due.due("refused", x.swap(0, 4), -1);
        Due.due("one", x.count(0), 1);
        Due.dueCoin("the coin yet", x, 0, 0, 12, 12, 7);
        Due.due("the next", x.swap(0, 3), 1);
        Due.due("from", x.from(1), 0);
    }

    // "BAD answers -20000000"
    private static void coinBad() {
        TouchingCoins x = new TouchingCoins();
        Due.due("no quads", x.coin(0, 0, 0), BAD);
        x = Due.with(Due.UNLIKE);
        for (int q : new int[] {-1, 1, 59, 60, LOW, HIGH}) {
            Due.due("quad " + q, x.coin(q, 0, 0), BAD);
        }
        for (int i : NO_COIN) {
            Due.due("coin " + i, x.coin(0, i, 0), BAD);
        }
        for (int what : NO_WHAT) {
            Due.due("what " + what, x.coin(0, 0, what), BAD);
        }
        Due.dueCoin("the first there is", x, 0, 0, -6, 2, 3);
        Due.dueCoin("the last there is", x, 0, 3, 15, -5, -6);
    }

    // "The QUAD of which one was made by swap(); NONE."
    private static void fromNone() {
        TouchingCoins x = Due.with(Due.SMALL);
        x.swap(0, 0);
        x.swap(1, 1);
        x.swap(0, 2);
        Due.quad(x, Due.SMALL);
        x.swap(4, 0);
        int[] from = {-3, 0, 1, 0, -3, 4};
        for (int q = 0; q < from.length; q++) {
            Due.due("from " + q, x.from(q), from[q]);
        }
    }

    // from: "BAD"
    private static void fromBad() {
        Due.due("no quads", new TouchingCoins().from(0), -1);
        TouchingCoins x = Due.with(Due.SMALL);
        for (int q : new int[] {-1, 1, 59, 60, LOW, HIGH}) {
            Due.due("from " + q, x.from(q), -1);
        }
    }

    // "How many STEPS there are": none
    private static void stepsOfARoot() {
        for (int[] four : new int[][] {Due.SMALL, Due.WIDE, Due.UNLIKE}) {
            TouchingCoins x = Due.with(four);
            Due.due("steps of a root", x.steps(0), 0);
            Due.due("its step 0", x.step(0, 0), -3);
        }
    }

    // "as long as its BEND becomes less by it": alike is not less
    private static void stepsThatAreNotLess() {
        TouchingCoins x = Due.with(Due.SMALL);
        Due.due("3 becomes 3", x.steps(0), 0);
        x.swap(0, 3);
        Due.due("and back", x.steps(1), 0);
        Due.dueCoin("the root of it", x, 1, 3, 3, 0, -2);
        Due.due("its root's y", x.root(1, 3, 2), -2);
        TouchingCoins y = Due.with(new int[] {-8, 9, 72, 73, 0, 0, 0, -2, 1, -1, -17, -17});
        Due.due("73 becomes 73", y.steps(0), 0);
        TouchingCoins z = Due.with(Due.WIDE);
        Due.due("7 becomes 7", z.steps(0), 0);
        z.swap(0, 2);
        Due.due("one step", z.steps(1), 1);
    }

    // "the COIN with the greatest BEND is SWAPPED (of several the first)": of two alike none becomes
    // less, as the other two have a sum above 0; so their four is a root, as it stands
    private static void ofSeveralTheFirst() {
        int[] four = {-3, 5, 8, 8, 0, 0, -1, 1, 1, -1, -4, -4};
        int[][] orders = {{0, 1, 2, 3}, {2, 0, 3, 1}, {3, 0, 2, 1}, {2, 3, 0, 1}, {1, 3, 2, 0}};
        for (int[] order : orders) {
            int[] turned = Due.ordered(four, order);
            TouchingCoins x = Due.with(turned);
            Due.due("steps", x.steps(0), 0);
            Due.due("step", x.step(0, 0), -3);
            for (int i = 0; i < 12; i++) {
                Due.due("root " + i, x.root(0, i % 4, i / 4), turned[i]);
            }
            x.swap(0, order[0] == 0 ? 1 : 0);
            Due.due("steps over it", x.steps(1), 1);
            Due.due("the greatest of these", x.step(1, 0), order[0] == 0 ? 1 : 0);
        }
    }

    // "a BEND may be 0 then"
    private static void downByWayOfBendZero() {
        TouchingCoins x = Due.with(Due.LINED);
        Due.due("steps", x.steps(0), 2);
        Due.due("12 becomes 0", x.step(0, 0), 0);
        Due.due("4 becomes 0", x.step(0, 1), 3);
        Due.due("no more", x.step(0, 2), -3);
        x.swap(0, 1);
        Due.due("from above", x.steps(1), 3);
    }

    // steps: "BAD"
    private static void stepsBad() {
        Due.due("no quads", new TouchingCoins().steps(0), -1);
        TouchingCoins x = Due.with(Due.SMALL);
        for (int q : new int[] {-1, 1, 59, 60, LOW, HIGH}) {
            Due.due("steps " + q, x.steps(q), -1);
        }
    }

    // "The COIN that is SWAPPED in STEP k; NONE."
    private static void stepNone() {
        TouchingCoins x = Due.with(Due.UNLIKE);
        x.swap(0, 2);
        x.swap(1, 0);
        Due.due("first", x.step(2, 0), 0);
        Due.due("last", x.step(2, 1), 2);
        Due.due("behind it", x.step(2, 2), -3);
        Due.due("high", x.step(2, HIGH), -3);
        Due.due("of a root", x.step(0, 0), -3);
        Due.due("of the one between", x.step(1, 0), 2);
        Due.due("last again", x.step(2, 1), 2);
        Due.due("first again", x.step(2, 0), 0);
    }

    // step: "BAD: also k below 0"
    private static void stepBad() {
        TouchingCoins x = Due.with(Due.UNLIKE);
        x.swap(0, 2);
        for (int q : new int[] {-1, 2, 59, 60, LOW, HIGH}) {
            Due.due("step of " + q, x.step(q, 0), -1);
            Due.due("none of " + q, x.step(q, 9), -1);
        }
        for (int q = 0; q < 2; q++) {
            Due.due("step -1", x.step(q, -1), -1);
            Due.due("step low", x.step(q, LOW), -1);
        }
    }

    // root: "as coin()": "BAD answers -20000000"
    private static void rootBad() {
        Due.due("no quads", new TouchingCoins().root(0, 0, 0), BAD);
        TouchingCoins x = Due.with(Due.UNLIKE);
        for (int q : new int[] {-1, 1, 59, 60, LOW, HIGH}) {
            Due.due("root of " + q, x.root(q, 0, 0), BAD);
        }
        for (int i : NO_COIN) {
            Due.due("coin " + i, x.root(0, i, 0), BAD);
        }
        for (int what : NO_WHAT) {
            Due.due("what " + what, x.root(0, 0, what), BAD);
        }
    }

    // root: "a BEND may be 0 then"
    private static void rootWithBendZero() {
        TouchingCoins x = Due.with(Due.LINED);
        int[] root = {0, 1, 1, 0, 0, 0, 2, 0, -1, 1, 1, 1};
        for (int i = 0; i < 12; i++) {
            Due.due("root " + i, x.root(0, i % 4, i / 4), root[i]);
        }
    }

    // "the last one is the ROOT": without steps it is the QUAD
    private static void rootOfARoot() {
        TouchingCoins x = Due.with(Due.UNLIKE);
        for (int i = 0; i < 12; i++) {
            Due.due("root " + i, x.root(0, i % 4, i / 4), Due.UNLIKE[i]);
        }
    }

    // "SAME are two QUADS whose ROOTS have the same four BENDS, in whatever order"
    private static void sameInWhateverOrder() {
        for (int a = 0; a < 4; a++) {
            for (int b = 0; b < 4; b++) {
                for (int c = 0; c < 4; c++) {
                    if (a != b && a != c && b != c) {
                        TouchingCoins x = Due.with(Due.UNLIKE);
                        Due.quad(x, Due.ordered(Due.UNLIKE, a, b, c, 6 - a - b - c));
                        x.swap(1, 2);
                        Due.due("same", x.same(0, 1), 1);
                        Due.due("same over a swap", x.same(0, 2), 1);
                        Due.due("same the other way", x.same(2, 0), 1);
                    }
                }
            }
        }
    }

    // "have the same four BENDS": wherever they are
    private static void sameByBendsAlone() {
        TouchingCoins x = Due.with(Due.SMALL);
        Due.quad(x, Due.moved(Due.SMALL, 100, -100));
        Due.quad(x, Due.WIDE);
        Due.quad(x, Due.LINED);
        Due.quad(x, new int[] {1, 1, 4, 12, 0, 2, 4, 12, 1, 1, 1, 7});
        Due.due("moved", x.same(0, 1), 1);
        Due.due("another", x.same(0, 2), 0);
        Due.due("another, the other way", x.same(2, 0), 0);
        Due.due("lines", x.same(3, 4), 1);
        Due.due("lines and none", x.same(3, 0), 0);
    }

    // "two QUADS": one twice
    private static void sameOfOne() {
        TouchingCoins x = Due.with(Due.SMALL);
        x.swap(0, 0);
        Due.due("itself", x.same(0, 0), 1);
        Due.due("itself", x.same(1, 1), 1);
    }

    // same: "BAD"
    private static void sameBad() {
        Due.due("no quads", new TouchingCoins().same(0, 0), -1);
        TouchingCoins x = Due.with(Due.SMALL);
        for (int q : new int[] {-1, 1, 59, 60, LOW, HIGH}) {
            Due.due("the first", x.same(q, 0), -1);
            Due.due("the second", x.same(0, q), -1);
            Due.due("both", x.same(q, q), -1);
        }
    }

    // "COINS i of one QUAD, j of another TOUCH; 0": a coin does not touch itself
    private static void touchOfOneQuad() {
        for (int[] four : new int[][] {Due.SMALL, Due.WIDE, Due.UNLIKE, Due.LINED, HIGHEST}) {
            TouchingCoins x = Due.with(four);
            for (int i = 0; i < 4; i++) {
                for (int j = 0; j < 4; j++) {
                    Due.due("touch " + i + " " + j, x.touch(0, i, 0, j), i == j ? 0 : 1);
                }
            }
        }
    }

    // (b x - a u)(b x - a u) + .. with numbers at their bounds
    private static void touchFarApart() {
        TouchingCoins x = Due.with(new int[] {869, 2301, 20000, 6996, 8, 24, 199, 69, -391, -1033, -8980, -3140});
        int[] made = {869, 2301, 20000, 6996, 8, 24, 199, 69, -391, -1033, -8980, -3140};
        Due.due("right, up", Due.quad(x, Due.moved(made, 2, 2)), 1);
        Due.due("left, down", Due.quad(x, Due.moved(made, -2, -2)), 2);
        Due.due("far apart", x.touch(1, 2, 2, 2), 0);
        Due.due("far apart", x.touch(2, 2, 1, 2), 0);
        Due.due("within one", x.touch(1, 2, 1, 3), 1);
        Due.due("within one", x.touch(2, 3, 2, 2), 1);
    }

    // The same formula, with coins of bend 2 that are 16384 apart: the square of 65536 is nothing to an int
    private static void touchThatWouldWrapAround() {
        TouchingCoins x = Due.with(Due.SMALL);
        Due.due("moved", Due.quad(x, Due.moved(Due.SMALL, 16384, 1)), 1);
        Due.due("far", x.touch(0, 1, 1, 1), 0);
        Due.due("moved up", Due.quad(x, Due.moved(Due.SMALL, 1, 16384)), 2);
        Due.due("far up", x.touch(0, 1, 2, 1), 0);
        Due.due("moved by one", Due.quad(x, Due.moved(Due.SMALL, 1, 0)), 3);
        Due.due("near", x.touch(0, 1, 3, 1), 1);
    }

    // touch: "BAD"
    private static void touchBad() {
        Due.due("no quads", new TouchingCoins().touch(0, 0, 0, 1), -1);
        TouchingCoins x = Due.with(Due.SMALL);
        for (int q : new int[] {-1, 1, 59, 60, LOW, HIGH}) {
            Due.due("the first", x.touch(q, 0, 0, 1), -1);
            Due.due("the second", x.touch(0, 0, q, 1), -1);
        }
        for (int i : NO_COIN) {
            Due.due("coin of the first", x.touch(0, i, 0, 1), -1);
            Due.due("coin of the second", x.touch(0, 1, 0, i), -1);
        }
        Due.due("the first and the last", x.touch(0, 0, 0, 3), 1);
    }
}
