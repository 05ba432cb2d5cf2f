/** Promises 15 to 21: a test for each sentence that names a boundary case; the sentence stands over it. */
public final class NestEdgesTest {
    private static final int LOW = Integer.MIN_VALUE;
    private static final int HIGH = Integer.MAX_VALUE;
    private static final int BAD = -20000000;
    private static final int NO_COIN = -20000001;
    private static final int BEYOND = -20000002;
    private static final int[] RING = {-22, 23, 506, 507, 0, 0, 0, -2, 1, -1, -45, -45};
    private static final int[] WITH_1 = {-8, 9, 72, 73, 0, 0, 0, -2, 1, -1, -17, -17};
    // A swap of its coin 2 makes a bend of 20000, the greatest that there may be.
    private static final int[] HIGHEST = {869, 2301, 332, 6996, 8, 24, 3, 69, -391, -1033, -148, -3140};
    // A swap of its coin 1 makes a bend of 20001.
    private static final int[] HIGHER = {5100, 1, 1, 4900, 5100, 0, 2, 4900, 4999, 1, 1, 4801};

    public static void main(String[] args) {
        listFromOneToTwoThousand();
        listBad();
        listBadChangesNothing();
        upToABendAndIt();
        eachOnce();
        byBendsThenXThenY();
        coinsOfTheRootAlone();
        allBendsNotAboveIt();
        listOfAllThatSwapsMake();
        moreThanTwoHundredAndForty();
        moreThanTwoHundredAndFortyAtOnce();
        oneBeyondTheBounds();
        oneBeyondThatIsNotListed();
        aBendZeroToo();
        theListThatThereIsStays();
        withoutAListManyLeavesNone();
        listedFirstAndLast();
        listedNone();
        listedBadAheadOfNone();
        findHowMany();
        findOfTheLatest();
        leftFromOneOn();
        leftUpToTheBend();
        leftIsTheBendOfNone();
        leftOfAShortAndOfAFullList();
        leftOfThatQuad();
        leftBad();
        leftWithoutAList();
        seenFromZeroToTwentyThree();
        seenOfBendsBelowZero();
        seenOfAllTheNest();
        seenBad();
        chainFromMinusHundredToHundred();
        chainAtZeroAndOne();
        chainTheLesserNumberAtZero();
        chainOfTurnedNumbers();
        chainBendAtItsBound();
        chainPlacesAtTheirBounds();
        chainOnTheWay();
        chainByWayOfBendZero();
        chainBad();
        chainBadAheadOfBeyond();
        chainChangesNothing();
        countOfWhat();
        countBad();
        countWithoutAList();
        countAfterAList();
        twoObjectsApart();
        theLastOfAllCalls();
        Due.end();
    }

    // "up to a BEND (1 to 2000)"
    private static void listFromOneToTwoThousand() {
        TouchingCoins x = Due.with(RING);
        Due.due("to 1", x.list(0, 1), 1);
        Due.due("counted to 1", x.count(2), 1);
        int to1999 = x.list(0, 1999);
        Due.due("some to 1999", to1999 > 4 ? 1 : 0, 1);
        Due.due("as many to 2000 as there are", x.list(0, 2000), to1999 + x.find(2000));
        Due.due("counted to 2000", x.count(2), 2000);
        Due.due("to 0", x.list(0, 0), -1);
        Due.due("to 2001", x.list(0, 2001), -1);
    }

    // list: "BAD"
    private static void listBad() {
        Due.due("no quads", new TouchingCoins().list(0, 1), -1);
        TouchingCoins x = Due.with(RING);
        for (int most : new int[] {0, -1, 2001, LOW, HIGH}) {
            Due.due("list to " + most, x.list(0, most), -1);
        }
        for (int q : new int[] {-1, 1, 59, 60, LOW, HIGH}) {
            Due.due("list of " + q, x.list(q, 100), -1);
        }
    }

    // "nothing changes then"
    private static void listBadChangesNothing() {
        TouchingCoins x = Due.with(Due.SMALL);
        x.list(0, 3);
        x.list(0, 0);
        x.list(0, 2001);
        x.list(1, 6);
        x.list(-1, 6);
        dueList(x, 3, -1, 0, 0, 2, -1, 0, 2, 1, 0, 3, 0, -2, 3, 0, 2);
    }

    private static void dueList(TouchingCoins x, int most, int... coins) {
        Due.due("coins of the list", x.count(1), coins.length / 3);
        Due.due("listed to", x.count(2), most);
        for (int n = 0; n < coins.length; n++) {
            Due.due("listed " + n / 3 + " " + n % 3, x.listed(n / 3, n % 3), coins[n]);
        }
        Due.due("behind the last", x.listed(coins.length / 3, 0), NO_COIN);
    }

    // "COINS are LISTED up to a BEND": it is one of them
    private static void upToABendAndIt() {
        TouchingCoins x = Due.with(Due.WIDE);
        int[] most = {1, 2, 3, 5, 6, 7, 9, 10};
        int[] due = {1, 1, 2, 2, 3, 5, 5, 7};
        for (int n = 0; n < most.length; n++) {
            Due.due("up to " + most[n], x.list(0, most[n]), due[n]);
        }
        dueList(x, 10, -2, 1, 0, 3, -1, 0, 6, -5, 0, 7, -5, -2, 7, -5, 2, 10, -5, -4, 10, -5, 4);
    }

    // "each once"
    private static void eachOnce() {
        TouchingCoins x = Due.with(Due.SMALL);
        x.swap(0, 3);
        Due.due("from the other side", x.list(1, 3), 5);
        dueList(x, 3, -1, 0, 0, 2, -1, 0, 2, 1, 0, 3, 0, -2, 3, 0, 2);
        Due.due("to 14", x.list(0, 14), 17);
        int[] bends = {-1, 2, 3, 6, 11, 14};
        int[] times = {1, 2, 2, 4, 4, 4};
        for (int n = 0; n < bends.length; n++) {
            Due.due("of bend " + bends[n], x.find(bends[n]), times[n]);
        }
        for (int i = 1; i < 17; i++) {
            Due.due("behind the one before", comesBehind(x, i) ? 1 : 0, 1);
        }
    }

    private static boolean comesBehind(TouchingCoins x, int i) {
        for (int what = 0; what < 3; what++) {
            if (x.listed(i, what) != x.listed(i - 1, what)) {
                return x.listed(i, what) > x.listed(i - 1, what);
            }
        }
        return false;
    }

    // "by their BENDS, then x, then y"
    private static void byBendsThenXThenY() {
        int[][] turned = {{0, 1, 2, 3}, {3, 2, 1, 0}, {1, 3, 0, 2}};
        for (int[] order : turned) {
            TouchingCoins x = Due.with(Due.ordered(Due.SMALL, order));
            Due.due("to 6", x.list(0, 6), 9);
            dueList(x, 6, -1, 0, 0, 2, -1, 0, 2, 1, 0, 3, 0, -2, 3, 0, 2,
                6, -3, -4, 6, -3, 4, 6, 3, -4, 6, 3, 4);
            // The same ones with x and y in each other's stead.
            int[] flat = Due.ordered(Due.SMALL, order);
            for (int i = 0; i < 4; i++) {
                flat[4 + i] = Due.SMALL[8 + order[i]];
                flat[8 + i] = Due.SMALL[4 + order[i]];
            }
            TouchingCoins y = Due.with(flat);
            Due.due("to 6", y.list(0, 6), 9);
            dueList(y, 6, -1, 0, 0, 2, 0, -1, 2, 0, 1, 3, -2, 0, 3, 2, 0,
                6, -4, -3, 6, -4, 3, 6, 4, -3, 6, 4, 3);
        }
    }

    // "each QUAD all of whose BENDS are not above that BEND is SWAPPED": not the ROOT, if one is above
    private static void coinsOfTheRootAlone() {
        int[] most = {1, 10, 11, 13, 14, 15, 22};
        int[] due = {1, 1, 2, 2, 3, 4, 4};
        for (int n = 0; n < most.length; n++) {
            TouchingCoins x = Due.with(Due.UNLIKE);
            x.swap(0, 0);
            Due.due("to " + most[n], x.list(1, most[n]), due[n]);
        }
    }

    // "all of whose BENDS are not above that BEND": the BEND itself is not above
    private static void allBendsNotAboveIt() {
        TouchingCoins x = Due.with(Due.SMALL);
        Due.due("3 is the greatest of the root", x.list(0, 3), 5);
        TouchingCoins y = Due.with(WITH_1);
        Due.due("below its 73", y.list(0, 72), 3);
        Due.due("to its 73", y.list(0, 73), 5);
    }

    // "all COINS of its ROOT, and of all that SWAPS make of that": from whichever QUAD
    private static void listOfAllThatSwapsMake() {
        TouchingCoins x = Due.with(Due.WIDE);
        x.swap(0, 3);
        x.swap(1, 2);
        x.swap(2, 1);
        x.swap(3, 0);
        for (int q = 0; q < 5; q++) {
            Due.due("list of " + q, x.list(q, 10), 7);
            dueList(x, 10, -2, 1, 0, 3, -1, 0, 6, -5, 0, 7, -5, -2, 7, -5, 2, 10, -5, -4, 10, -5, 4);
        }
    }

    // "TOO MANY: there are more than 240"
    private static void moreThanTwoHundredAndForty() {
        TouchingCoins x = Due.with(Due.UNLIKE);
        Due.due("240", x.list(0, 785), 240);
        Due.due("the last", x.listed(239, 0), 782);
        Due.due("behind it", x.listed(240, 0), NO_COIN);
        Due.due("more", x.list(0, 786), -4);
        TouchingCoins y = Due.with(new int[] {-14, 19, 54, 55, 2, -3, -6, -5, 5, -7, -17, -19});
        Due.due("240", y.list(0, 1953), 240);
        Due.due("more", y.list(0, 1954), -4);
        Due.due("240 again", y.list(0, 1953), 240);
    }

    // "TOO MANY: there are more than 240": some thousands of them
    private static void moreThanTwoHundredAndFortyAtOnce() {
        for (int[] four : new int[][] {Due.SMALL, Due.WIDE, Due.UNLIKE}) {
            TouchingCoins x = Due.with(four);
            Due.due("to 2000", x.list(0, 2000), -4);
            Due.due("to 1500", x.list(0, 1500), -4);
        }
    }

    private static void dueEdge(int most, int due, int... twelve) {
        TouchingCoins x = Due.with(twelve);
        Due.due("below the edge", x.list(0, most - 1) > 0 ? 1 : 0, 1);
        Due.due("at the edge", x.list(0, most), due);
        Due.due("listed to", x.count(2), due > 0 ? most : most - 1);
    }

    // "TOO MANY: .. one beyond the bounds": a PLACE of 50001 is, one of 50000 is not
    private static void oneBeyondTheBounds() {
        dueEdge(39, 21, -2, 3, 6, 7, -2565, 3848, 7693, 8976, 0, 0, 0, 2);
        dueEdge(55, 33, -2, 3, 6, 7, 1819, -2728, -5459, -6368, 0, 0, 0, 2);
        dueEdge(44, 15, -3, 5, 8, 8, 0, 0, -1, 1, -3410, 5684, 9092, 9092);
        dueEdge(39, 21, -2, 3, 6, 7, 0, 0, 0, 2, 2565, -3848, -7693, -8976);
        dueEdge(18, -4, -1, 2, 2, 3, -2777, 5555, 5553, 8331, 0, 0, 0, 2);
        dueEdge(18, -4, -1, 2, 2, 3, 2777, -5553, -5555, -8331, 0, 0, 0, 2);
        dueEdge(18, -4, -1, 2, 2, 3, 0, 0, 0, 2, -2777, 5553, 5555, 8331);
        dueEdge(18, -4, -1, 2, 2, 3, 0, 0, 0, 2, 2777, -5553, -5555, -8331);
    }

    // "LISTED up to a BEND .. one beyond the bounds": one above that BEND is none of them
    private static void oneBeyondThatIsNotListed() {
        TouchingCoins x = Due.with(Due.moved(Due.SMALL, 8333, 0));
        Due.due("a swap is beyond", x.swap(0, 2), -16);
        Due.due("to 5", x.list(0, 5), 5);
        Due.due("to 6", x.list(0, 6), -4);
        Due.due("to 5 again", x.list(0, 5), 5);
        TouchingCoins y = Due.with(HIGHER);
        Due.due("a bend beyond", y.swap(0, 1), -15);
    }

    // "(a BEND 0, too)"
    private static void aBendZeroToo() {
        int[][] orders = {{0, 1, 2, 3}, {3, 2, 1, 0}, {1, 0, 3, 2}};
        for (int[] order : orders) {
            TouchingCoins x = Due.with(Due.ordered(Due.LINED, order));
            for (int most : new int[] {1, 3, 4, 12, 100, 2000}) {
                Due.due("to " + most, x.list(0, most), -4);
            }
            Due.due("no list", x.count(2), 0);
        }
    }

    // "MANY: TOO MANY (the list that there is stays)"
    private static void theListThatThereIsStays() {
        TouchingCoins x = Due.with(Due.SMALL);
        Due.quad(x, Due.LINED);
        Due.quad(x, Due.WIDE);
        Due.due("list", x.list(2, 18), 9);
        int left = x.left(0);
        Due.due("left", left, 18);
        Due.due("more than 240", x.list(0, 2000), -4);
        Due.due("a bend 0", x.list(1, 5), -4);
        Due.due("the first", x.listed(0, 0), -2);
        Due.due("the last", x.listed(8, 0), 15);
        Due.due("behind it", x.listed(9, 0), NO_COIN);
        Due.due("find", x.find(7), 2);
        Due.due("left", x.left(0), left);
        Due.due("no more left", x.left(1), -3);
        Due.due("count 1", x.count(1), 9);
        Due.due("count 2", x.count(2), 18);
    }

    // "MANY .. (the list that there is stays)": there is none yet
    private static void withoutAListManyLeavesNone() {
        TouchingCoins x = Due.with(Due.SMALL);
        Due.due("many", x.list(0, 2000), -4);
        Due.due("listed", x.listed(0, 0), NO_COIN);
        Due.due("find", x.find(2), 0);
        Due.due("left", x.left(0), -3);
        Due.due("count 1", x.count(1), 0);
        Due.due("count 2", x.count(2), 0);
    }

    // "Of the i-th COIN of the latest list() that was told"
    private static void listedFirstAndLast() {
        TouchingCoins x = Due.with(Due.UNLIKE);
        x.list(0, 23);
        dueList(x, 23, -6, 2, 3, 11, -3, -6, 14, -6, -7, 15, -5, -6, 23, -9, -14);
        x.list(0, 11);
        dueList(x, 11, -6, 2, 3, 11, -3, -6);
        x.list(0, 1);
        dueList(x, 1, -6, 2, 3);
        Due.quad(x, Due.SMALL);
        x.list(1, 2);
        dueList(x, 2, -1, 0, 0, 2, -1, 0, 2, 1, 0);
    }

    // "NONE answers -20000001: there is none (i below 0, too)"
    private static void listedNone() {
        TouchingCoins x = Due.with(Due.SMALL);
        for (int what = 0; what < 3; what++) {
            Due.due("without a list", x.listed(0, what), NO_COIN);
        }
        x.list(0, 3);
        for (int what = 0; what < 3; what++) {
            for (int i : new int[] {-1, 5, 239, 240, LOW, HIGH}) {
                Due.due("listed " + i, x.listed(i, what), NO_COIN);
            }
        }
    }

    // "BAD (ahead of NONE) -20000000"
    private static void listedBadAheadOfNone() {
        TouchingCoins x = Due.with(Due.SMALL);
        for (int what : new int[] {-1, 3, LOW, HIGH}) {
            Due.due("without a list", x.listed(0, what), BAD);
        }
        x.list(0, 3);
        for (int what : new int[] {-1, 3, LOW, HIGH}) {
            for (int i : new int[] {-1, 0, 4, 5, HIGH}) {
                Due.due("what " + what, x.listed(i, what), BAD);
            }
        }
    }

    // "How many COINS of that list have a BEND": none has 0, nor one that is beyond it
    private static void findHowMany() {
        TouchingCoins x = Due.with(Due.SMALL);
        Due.due("without a list", x.find(-1), 0);
        x.list(0, 6);
        int[] bends = {LOW, -2, -1, 0, 1, 2, 3, 4, 5, 6, 7, 11, 20001, HIGH};
        int[] times = {0, 0, 1, 0, 0, 2, 2, 0, 0, 4, 0, 0, 0, 0};
        for (int n = 0; n < bends.length; n++) {
            Due.due("find " + bends[n], x.find(bends[n]), times[n]);
        }
    }

    // "of that list": the latest that was told
    private static void findOfTheLatest() {
        TouchingCoins x = Due.with(Due.SMALL);
        Due.quad(x, Due.WIDE);
        x.list(0, 6);
        x.list(1, 6);
        Due.due("of the first", x.find(2), 0);
        Due.due("of the second", x.find(-2), 1);
        x.list(0, 2000);
        Due.due("of the second yet", x.find(-2), 1);
    }

    // "The i-th whole, from 1 on"
    private static void leftFromOneOn() {
        TouchingCoins x = Due.with(WITH_1);
        Due.due("0 and 1 are seen", x.seen(0) & 3, 3);
        x.list(0, 24);
        int[] left = {1, 4, 12, 16, 24};
        for (int i = 0; i < left.length; i++) {
            Due.due("left " + i, x.left(i), left[i]);
        }
        Due.due("none behind them", x.left(left.length), -3);
        Due.due("high", x.left(HIGH), -3);
        x.list(0, 1);
        Due.due("1 alone", x.left(0), 1);
        Due.due("none behind it", x.left(1), -3);
    }

    // "up to the BEND to which it was LISTED": it is one of them
    private static void leftUpToTheBend() {
        TouchingCoins x = Due.with(WITH_1);
        x.list(0, 23);
        Due.due("to 23", x.left(4), -3);
        x.list(0, 24);
        Due.due("to 24", x.left(4), 24);
        TouchingCoins y = Due.with(RING);
        y.list(0, 2000);
        Due.due("the last of all", y.left(623), 1998);
        Due.due("none behind it", y.left(624), -3);
    }

    // "that has one of the REMAINDERS of that QUAD, and is the BEND of no COIN of the list"
    private static void leftIsTheBendOfNone() {
        for (int[] four : new int[][] {Due.SMALL, Due.WIDE, Due.UNLIKE, WITH_1}) {
            TouchingCoins x = Due.with(four);
            int most = 80;
            x.list(0, most);
            int seen = x.seen(0);
            int i = 0;
            for (int whole = 1; whole <= most; whole++) {
                if ((seen >> whole % 24 & 1) == 1 && x.find(whole) == 0) {
                    Due.due("left " + i, x.left(i), whole);
                    i++;
                }
            }
            Due.due("no more", x.left(i), -3);
        }
    }

    // "the BEND of no COIN of the list": what longer lists had counts for nothing, nor what is behind 240
    private static void leftOfAShortAndOfAFullList() {
        TouchingCoins x = Due.with(new int[] {-3, 4, 12, 13, 0, 0, 0, -2, 1, -1, -7, -7});
        Due.quad(x, WITH_1);
        Due.due("a longer one with 12", x.list(0, 30) > 2 ? x.listed(2, 0) : 0, 12);
        for (int n = 0; n < 3; n++) {
            Due.due("a short one without", x.list(1, 24), 2);
            Due.due("left", x.left(2), 12);
        }
        TouchingCoins y = Due.with(Due.UNLIKE);
        Due.due("a full one", y.list(0, 785), 240);
        Due.due("first", y.left(0), 2);
        Due.due("behind the last coin", y.left(HIGH), -3);
    }

    // "of that QUAD": the one that was LISTED, whatever came after
    private static void leftOfThatQuad() {
        TouchingCoins x = Due.with(Due.WIDE);
        x.list(0, 18);
        Due.quad(x, Due.SMALL);
        x.swap(1, 0);
        x.seen(1);
        Due.due("left of the first", x.left(0), 18);
        x.list(2, 2000);
        Due.due("left of the first yet", x.left(0), 18);
        x.list(2, 18);
        Due.due("left of the second", x.left(0), -3);
    }

    // "BAD: i below 0"
    private static void leftBad() {
        TouchingCoins x = Due.with(WITH_1);
        x.list(0, 24);
        Due.due("-1", x.left(-1), -1);
        Due.due("low", x.left(LOW), -1);
    }

    // "(Without a list: NONE; BAD ahead.)"
    private static void leftWithoutAList() {
        TouchingCoins x = new TouchingCoins();
        for (int n = 0; n < 2; n++) {
            Due.due("0", x.left(0), -3);
            Due.due("high", x.left(HIGH), -3);
            Due.due("-1", x.left(-1), -1);
            Due.due("low", x.left(LOW), -1);
            x = Due.with(WITH_1);
        }
    }

    private static int bits(int... remainders) {
        int made = 0;
        for (int k : remainders) {
            made |= 1 << k;
        }
        return made;
    }

    // "those by 24 (0 to 23)"; "bit k: k"
    private static void seenFromZeroToTwentyThree() {
        Due.due("with 0", Due.with(WITH_1).seen(0), bits(0, 1, 4, 9, 12, 16));
        Due.due("with 23", Due.with(Due.SMALL).seen(0), bits(2, 3, 6, 11, 14, 15, 18, 23));
    }

    // REMAINDERS of BENDS below 0 are 0 to 23, too
    private static void seenOfBendsBelowZero() {
        Due.due("-2 is 22", Due.with(Due.WIDE).seen(0), bits(3, 6, 7, 10, 15, 18, 19, 22));
        Due.due("-1 is 23, and 2 is no -1", Due.with(Due.SMALL).seen(0) >> 22, 2);
        Due.due("-22 is 2", Due.with(RING).seen(0) >> 2 & 1, 1);
    }

    // "of all BENDS of THE NEST": of each QUAD of it the same
    private static void seenOfAllTheNest() {
        for (int[] four : new int[][] {Due.SMALL, Due.WIDE, Due.UNLIKE, Due.LINED, RING, HIGHEST}) {
            TouchingCoins x = Due.with(four);
            int seen = x.seen(0);
            for (int i = 0; i < 4; i++) {
                int q = x.swap(0, i);
                if (q > 0) {
                    Due.due("of a swap", x.seen(q), seen);
                    int bend = x.coin(q, i, 0);
                    Due.due("its own", seen >> Math.floorMod(bend, 24) & 1, 1);
                }
                int root = x.root(0, i, 0);
                Due.due("of the root", seen >> Math.floorMod(root, 24) & 1, 1);
            }
        }
    }

    // seen: "BAD"
    private static void seenBad() {
        Due.due("no quads", new TouchingCoins().seen(0), -1);
        TouchingCoins x = Due.with(Due.SMALL);
        for (int q : new int[] {-1, 1, 59, 60, LOW, HIGH}) {
            Due.due("seen " + q, x.seen(q), -1);
        }
    }

    // "at k (-100 to 100)"
    private static void chainFromMinusHundredToHundred() {
        // Between -1 and 2 the bends are k k + 2, and so they are in both directions.
        TouchingCoins x = Due.with(Due.SMALL);
        for (int k : new int[] {0, 1, 2, 3, 99, 100}) {
            Due.due("at " + k, x.chain(0, 0, 1, k, 0), k * k + 2);
            Due.due("at -" + k, x.chain(0, 0, 1, -k, 0), k * k + 2);
            Due.due("x at " + k, x.chain(0, 0, 1, k, 1), k * k - 1);
            Due.due("y at " + k, x.chain(0, 0, 1, k, 2), 2 * k);
            Due.due("y at -" + k, x.chain(0, 0, 1, -k, 2), -2 * k);
        }
        for (int k : new int[] {101, -101, 102, -102, LOW, HIGH}) {
            Due.due("at " + k, x.chain(0, 0, 1, k, 0), BAD);
        }
    }

    // "stands at 0, the other one at 1"
    private static void chainAtZeroAndOne() {
        for (int i = 0; i < 4; i++) {
            for (int j = 0; j < 4; j++) {
                if (i == j) {
                    continue;
                }
                TouchingCoins x = Due.with(Due.UNLIKE);
                int first = 0;
                while (first == i || first == j) {
                    first++;
                }
                int second = 6 - i - j - first;
                for (int what = 0; what < 3; what++) {
                    Due.due("at 0", x.chain(0, i, j, 0, what), Due.UNLIKE[4 * what + first]);
                    Due.due("at 1", x.chain(0, i, j, 1, what), Due.UNLIKE[4 * what + second]);
                }
            }
        }
    }

    // "of the other two the one with the lesser number stands at 0": not the one with the lesser BEND
    private static void chainTheLesserNumberAtZero() {
        TouchingCoins x = Due.with(Due.ordered(Due.UNLIKE, 3, 2, 1, 0));
        Due.due("15 at 0", x.chain(0, 2, 3, 0, 0), 15);
        Due.due("14 at 1", x.chain(0, 2, 3, 1, 0), 14);
        Due.due("behind 14", x.chain(0, 2, 3, 2, 0), 2 * (11 - 6 + 14) - 15);
        Due.due("ahead of 15", x.chain(0, 2, 3, -1, 0), 2 * (11 - 6 + 15) - 14);
    }

    // "THE CHAIN of COINS i, j": whichever of them is told first
    private static void chainOfTurnedNumbers() {
        TouchingCoins x = Due.with(Due.WIDE);
        for (int k = -6; k <= 6; k++) {
            for (int what = 0; what < 3; what++) {
                Due.due("0, 3", x.chain(0, 0, 3, k, what), x.chain(0, 3, 0, k, what));
                Due.due("1, 2", x.chain(0, 1, 2, k, what), x.chain(0, 2, 1, k, what));
            }
        }
    }

    // "a COIN on the way there .. is beyond the bounds": a BEND of 20001 is, one of 20000 is not
    private static void chainBendAtItsBound() {
        TouchingCoins x = Due.with(HIGHEST);
        Due.due("20000 above", x.chain(0, 0, 1, 2, 0), 20000);
        Due.due("20000 below", x.chain(0, 0, 3, -1, 0), 20000);
        Due.due("beyond it", x.chain(0, 0, 1, 3, 0), BEYOND);
        TouchingCoins y = Due.with(HIGHER);
        Due.due("20001 above", y.chain(0, 0, 2, 2, 0), BEYOND);
        Due.due("20001 below", y.chain(0, 2, 3, -1, 0), BEYOND);
    }

    private static void dueChain(int want, int what, int i, int j, int k, int... twelve) {
        TouchingCoins x = Due.with(twelve);
        int nearer = k > 0 ? k - 1 : k + 1;
        int before = x.chain(0, i, j, nearer, what);
        Due.due("within at " + nearer, before == BEYOND || before == BAD ? 1 : 0, 0);
        Due.due("at " + k, x.chain(0, i, j, k, what), want);
    }

    // "a COIN on the way there .. is beyond the bounds": a PLACE of 50001 is, one of 50000 is not
    private static void chainPlacesAtTheirBounds() {
        dueChain(-50000, 1, 0, 2, 8, -1, 6, 2, 11, 490, -2944, -980, -5396, 154, -927, -309, -1702);
        dueChain(BEYOND, 1, 1, 3, 3, -6, 11, 42, 71, 477, -874, -3333, -5634, -262, 481, 1834, 3103);
        dueChain(50000, 1, 0, 1, 12, -1, 2, 6, 3, -490, 980, 2936, 1468, 98, -195, -585, -294);
        dueChain(BEYOND, 1, 2, 3, 4, -1, 6, 2, 3, -575, 3447, 1149, 1725, 66, -392, -132, -196);
        dueChain(-50000, 2, 1, 2, 3, 52, 9, 1, 108, 3529, 611, 67, 7327, -9284, -1608, -178, -19284);
        dueChain(BEYOND, 2, 1, 3, 3, -3, 5, 8, 8, 23, -39, -60, -60, 1389, -2315, -3705, -3703);
        dueChain(50000, 2, 0, 1, 2, -3, 21, 8, 8, 132, -924, -353, -351, -3410, 23864, 9092, 9092);
        dueChain(BEYOND, 2, 2, 3, 13, 177, 48, 17, 20, -742, -200, -72, -84, 2070, 561, 198, 235);
        dueChain(-50000, 1, 1, 2, -2, 12, 1, 1, 4, -15000, -1251, -1249, -5000, 2635, 220, 220, 877);
        dueChain(BEYOND, 1, 0, 2, -2, -3, 21, 8, 8, 1949, -13637, -5196, -5196, 735, -5145, -1961, -1959);
        dueChain(50000, 1, 1, 2, -2, 174, 91, 6, 7, 7980, 4174, 276, 320, 6833, 3575, 235, 275);
        dueChain(BEYOND, 1, 0, 3, -2, 599, 90, 26, 179, 6131, 921, 267, 1831, -1257, -190, -54, -375);
        dueChain(-50000, 2, 0, 1, -3, -2, 3, 6, 7, 1208, -1812, -3624, -4230, 6667, -10000, -20003, -23336);
        dueChain(BEYOND, 2, 2, 3, -2, 880, 1, 169, 276, -5360, -7, -1029, -1680, -8289, -9, -1593, -2599);
        dueChain(50000, 2, 0, 1, -1, -3, 21, 8, 8, 132, -924, -353, -351, -3410, 23864, 9092, 9092);
        dueChain(BEYOND, 2, 2, 3, -9, 105, 12, 17, 20, 184, 20, 30, 36, 1230, 141, 198, 235);
    }

    // "on the way there from 0 or 1": from the first one beyond on there is no more, on that side alone
    private static void chainOnTheWay() {
        TouchingCoins x = Due.with(HIGHEST);
        for (int what = 0; what < 3; what++) {
            Due.due("at 3", x.chain(0, 0, 1, 3, what), BEYOND);
            Due.due("at 100", x.chain(0, 0, 1, 100, what), BEYOND);
        }
        TouchingCoins y = Due.with(Due.moved(Due.SMALL, 16666, 0));
        Due.due("at 2", y.chain(0, 0, 1, 2, 0), BEYOND);
        Due.due("at 1", y.chain(0, 0, 1, 1, 0), 3);
        Due.due("at 0", y.chain(0, 0, 1, 0, 0), 2);
        Due.due("at -1", y.chain(0, 0, 1, -1, 0), 3);
        Due.due("at -2", y.chain(0, 0, 1, -2, 0), BEYOND);
        TouchingCoins z = Due.with(HIGHER);
        Due.due("beyond above", z.chain(0, 0, 2, 2, 0), BEYOND);
        Due.due("within below", z.chain(0, 0, 2, -1, 0), 2 * (5100 + 1 + 1) - 4900);
    }

    // A COIN's BEND is not 0: one of 0 is beyond, and so is what lies behind it
    private static void chainByWayOfBendZero() {
        TouchingCoins x = Due.with(Due.LINED);
        Due.due("4 at 1", x.chain(0, 1, 2, 1, 0), 4);
        for (int k = 2; k <= 6; k++) {
            for (int what = 0; what < 3; what++) {
                Due.due("at " + k, x.chain(0, 1, 2, k, what), BEYOND);
            }
        }
        Due.due("below 0", x.chain(0, 1, 2, -1, 0), 24);
        TouchingCoins y = Due.with(Due.ordered(Due.LINED, 3, 1, 2, 0));
        Due.due("the other way", y.chain(0, 1, 2, -1, 0), BEYOND);
        Due.due("above 1", y.chain(0, 1, 2, 2, 0), 24);
    }

    // chain: "BAD (i is j, too) answers -20000000"
    private static void chainBad() {
        Due.due("no quads", new TouchingCoins().chain(0, 0, 1, 0, 0), BAD);
        TouchingCoins x = Due.with(Due.SMALL);
        for (int q : new int[] {-1, 1, 59, 60, LOW, HIGH}) {
            Due.due("quad " + q, x.chain(q, 0, 1, 0, 0), BAD);
        }
        for (int i : new int[] {-1, 4, LOW, HIGH}) {
            Due.due("i " + i, x.chain(0, i, 1, 0, 0), BAD);
            Due.due("j " + i, x.chain(0, 1, i, 0, 0), BAD);
        }
        for (int i = 0; i < 4; i++) {
            Due.due("i is j " + i, x.chain(0, i, i, 0, 0), BAD);
            Due.due("i is j " + i, x.chain(0, i, i, 2, 0), BAD);
        }
        for (int what : new int[] {-1, 3, LOW, HIGH}) {
            Due.due("what " + what, x.chain(0, 0, 1, 0, what), BAD);
        }
    }

    // "Of several the first": BAD ahead of -20000002
    private static void chainBadAheadOfBeyond() {
        TouchingCoins x = Due.with(Due.LINED);
        Due.due("beyond", x.chain(0, 1, 2, 100, 0), BEYOND);
        Due.due("what", x.chain(0, 1, 2, 100, 3), BAD);
        Due.due("what", x.chain(0, 1, 2, 100, -1), BAD);
        Due.due("k", x.chain(0, 1, 2, 101, 0), BAD);
        Due.due("i is j", x.chain(0, 1, 1, 100, 0), BAD);
        Due.due("quad", x.chain(1, 1, 2, 100, 0), BAD);
    }

    // THE CHAIN tells, and makes no QUADS and no list
    private static void chainChangesNothing() {
        TouchingCoins x = Due.with(Due.UNLIKE);
        x.list(0, 11);
        x.chain(0, 0, 1, 7, 0);
        x.chain(0, 2, 3, -100, 0);
        Due.due("quads", x.count(0), 1);
        dueList(x, 11, -6, 2, 3, 11, -3, -6);
        for (int i = 0; i < 12; i++) {
            Due.due("coin", x.coin(0, i % 4, i / 4), Due.UNLIKE[i]);
        }
    }

    // "0 QUADS, 1 COINS of the list, 2 the BEND to which it was LISTED"
    private static void countOfWhat() {
        TouchingCoins x = Due.with(Due.UNLIKE);
        x.swap(0, 0);
        x.swap(0, 1);
        x.list(0, 13);
        Due.due("quads", x.count(0), 3);
        Due.due("coins", x.count(1), 2);
        Due.due("bend", x.count(2), 13);
    }

    // count: "BAD"
    private static void countBad() {
        TouchingCoins x = new TouchingCoins();
        for (int what : new int[] {-1, 3, LOW, HIGH}) {
            Due.due("count " + what, x.count(what), -1);
        }
    }

    // "(0 without)"
    private static void countWithoutAList() {
        TouchingCoins x = new TouchingCoins();
        for (int what = 0; what < 3; what++) {
            Due.due("new " + what, x.count(what), 0);
        }
        x = Due.with(Due.LINED);
        x.list(0, 100);
        x.list(0, 0);
        Due.due("coins", x.count(1), 0);
        Due.due("bend", x.count(2), 0);
    }

    // "1 COINS of the list, 2 the BEND": of the latest, a shorter one too
    private static void countAfterAList() {
        TouchingCoins x = Due.with(Due.SMALL);
        for (int most : new int[] {1, 2, 3, 2, 1}) {
            int coins = x.list(0, most);
            Due.due("coins", x.count(1), coins);
            Due.due("bend", x.count(2), most);
        }
    }

    // Promise 1: a new object has nothing of another one
    private static void twoObjectsApart() {
        TouchingCoins x = Due.with(Due.SMALL);
        x.list(0, 6);
        TouchingCoins y = new TouchingCoins();
        Due.due("no quads", y.count(0), 0);
        Due.due("no list", y.listed(0, 0), NO_COIN);
        Due.due("no bag", y.holds(5, 0, 0), -11);
        Due.due("its own", Due.quad(y, Due.WIDE), 0);
        y.list(0, 3);
        Due.due("of the first", x.coin(0, 0, 0), -1);
        Due.due("list of the first", x.count(1), 9);
        Due.due("bag of the first", x.holds(5, 0, -1), 1);
    }

    // "used for at most 512 calls": the last ones answer as the first
    private static void theLastOfAllCalls() {
        TouchingCoins x = Due.with(Due.UNLIKE);
        int calls = 14;
        for (int q = 1; q < 60; q++) {
            Due.due("swap back and forth", x.swap(q - 1, 0), q);
            calls++;
        }
        while (calls < 508) {
            Due.due("list", x.list(calls % 60, calls % 2 == 0 ? 785 : 786), calls % 2 == 0 ? 240 : -4);
            calls++;
        }
        Due.due("call 509", x.left(3), 18);
        Due.due("call 510", x.listed(239, 0), 782);
        Due.due("call 511", x.swap(59, 0), -2);
        Due.due("call 512", x.chain(58, 0, 1, 3, 0), 47);
    }
}
