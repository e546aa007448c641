/** The edges of promises 2, 3 and 4, a method for each sentence that names one. */
public final class GreatRingBoundsTest {
    private static final long GREATEST = 1000000000000L;
    private static final int BAD = CountedOut.BAD;
    private static final Due due = new Due();

    public static void main(String[] args) {
        theLeastRingIsOfOne();
        theGreatestRing();
        noRingBelowOneOrAboveTheGreatest();
        placesAreZeroToOneBelowN();
        countsAreOneToAThousand();
        theFirstCountIsAtPlaceZero();
        countsGoRoundAndRound();
        theNextOneIsCountedOne();
        theJthIsOneToN();
        theNthIsTheLast();
        longNumbersAreNotCutShort();
        severalWrongNumbers();
        due.end();
    }

    private static void goes(long n, int k, long j, long want) {
        due.is("goes(" + n + ", " + k + ", " + j + ")", new CountedOut().goes(n, k, j), want);
    }

    private static void turn(long n, int k, long place, long want) {
        due.is("turn(" + n + ", " + k + ", " + place + ")", new CountedOut().turn(n, k, place), want);
    }

    private static void last(long n, int k, long want) {
        due.is("last(" + n + ", " + k + ")", new CountedOut().last(n, k), want);
    }

    private static void allAreBad(long n, int k) {
        goes(n, k, 1, BAD);
        turn(n, k, 0, BAD);
        last(n, k, BAD);
    }

    // "A GREAT RING of n (1 .. 1000000000000)"

    private static void theLeastRingIsOfOne() {
        for (int k : new int[] {1, 2, 3, 999, 1000}) {
            goes(1, k, 1, 0);
            turn(1, k, 0, 1);
            last(1, k, 0);
        }
        last(2, 1, 1);
        last(2, 2, 0);
        last(2, 999, 1);
        last(2, 1000, 0);
    }

    private static void theGreatestRing() {
        goes(GREATEST, 1, GREATEST, GREATEST - 1);
        turn(GREATEST, 1, GREATEST - 1, GREATEST);
        last(GREATEST, 1, GREATEST - 1);
        long lastByTwo = 2 * (GREATEST - (1L << 39));
        goes(GREATEST, 2, GREATEST, lastByTwo);
        turn(GREATEST, 2, lastByTwo, GREATEST);
        last(GREATEST, 2, lastByTwo);
        goes(GREATEST, 1000, 1, 999);
        turn(GREATEST, 1000, GREATEST - 1, GREATEST / 1000);
        // By 1000 a first round puts out each thousandth; the next one begins at place 0 again.
        goes(GREATEST, 1000, GREATEST / 1000 + 1, 1000);
        turn(GREATEST, 1000, 1000, GREATEST / 1000 + 1);
        last(GREATEST - 1, 2, 2 * (GREATEST - 1 - (1L << 39)));
    }

    private static void noRingBelowOneOrAboveTheGreatest() {
        for (long n : new long[] {0, -1, -GREATEST, GREATEST + 1, 2 * GREATEST, Long.MIN_VALUE, Long.MAX_VALUE}) {
            for (int k : new int[] {1, 2, 1000}) {
                allAreBad(n, k);
            }
        }
        goes(0, 1, 0, BAD);
        turn(0, 1, -1, BAD);
        goes(GREATEST + 1, 1, GREATEST + 1, BAD);
        turn(GREATEST + 1, 1, GREATEST, BAD);
    }

    // "has PLACES 0 .. n - 1"

    private static void placesAreZeroToOneBelowN() {
        for (long n : new long[] {1, 2, 5, 1000, GREATEST}) {
            turn(n, 1, 0, 1);
            turn(n, 1, n - 1, n);
            for (int k : new int[] {1, 2, 1000}) {
                turn(n, k, -1, BAD);
                turn(n, k, n, BAD);
                turn(n, k, n + 1, BAD);
                turn(n, k, Long.MIN_VALUE, BAD);
                turn(n, k, Long.MAX_VALUE, BAD);
            }
        }
    }

    // "by a count k (1 .. 1000)"

    private static void countsAreOneToAThousand() {
        for (long n : new long[] {1, 5, GREATEST}) {
            for (int k : new int[] {0, -1, -1000, 1001, 10000, Integer.MIN_VALUE, Integer.MAX_VALUE}) {
                allAreBad(n, k);
            }
        }
        last(5, 1, 4);
        last(7, 1000, 4);
    }

    // "one counts 1 at PLACE 0"

    private static void theFirstCountIsAtPlaceZero() {
        for (int k = 1; k <= 1000; k++) {
            goes(GREATEST, k, 1, k - 1);
            turn(GREATEST, k, k - 1, 1);
        }
    }

    // "goes on from PLACE to PLACE, round and round, over those that are not out"

    private static void countsGoRoundAndRound() {
        goes(5, 4, 1, 3);
        goes(5, 5, 1, 4);
        goes(5, 6, 1, 0);
        goes(5, 10, 1, 4);
        goes(5, 11, 1, 0);
        goes(5, 1000, 1, 4);
        goes(999, 1000, 1, 0);
        goes(1000, 1000, 1, 999);
        goes(1001, 1000, 1, 999);
        turn(999, 1000, 0, 1);
        turn(1000, 1000, 999, 1);
        turn(1001, 1000, 999, 1);
        // Three at a time of 0 .. 4: 2 goes; 3, 4, 0 goes; 1, 3, 4 goes; 1, 3, 1 goes; 3 is left.
        long[] gone = {2, 0, 4, 1, 3};
        for (int j = 1; j <= 5; j++) {
            goes(5, 3, j, gone[j - 1]);
            turn(5, 3, gone[j - 1], j);
        }
        last(5, 3, 3);
    }

    // "the next one is counted 1"

    private static void theNextOneIsCountedOne() {
        goes(10, 1, 2, 1);
        goes(10, 3, 2, 5);
        goes(10, 10, 2, 0);
        goes(GREATEST, 1000, 2, 1999);
    }

    // "The j-th to go is told by j 1 .. n"

    private static void theJthIsOneToN() {
        for (long n : new long[] {1, 2, 5, 1000, GREATEST}) {
            goes(n, 1, 1, 0);
            goes(n, 1, n, n - 1);
            for (int k : new int[] {1, 2, 1000}) {
                goes(n, k, 0, BAD);
                goes(n, k, -1, BAD);
                goes(n, k, n + 1, BAD);
                goes(n, k, Long.MIN_VALUE, BAD);
                goes(n, k, Long.MAX_VALUE, BAD);
            }
        }
    }

    // "the n-th one is THE LAST"

    private static void theNthIsTheLast() {
        for (long n : new long[] {1, 2, 3, 999, 1000, 1001, 4294967296L, GREATEST - 1, GREATEST}) {
            for (int k : new int[] {1, 2, 3, 999, 1000}) {
                long theLast = new CountedOut().last(n, k);
                goes(n, k, n, theLast);
                turn(n, k, theLast, n);
            }
        }
    }

    private static void longNumbersAreNotCutShort() {
        long over = 1L << 32;
        last(over, 2, 0);
        last(over + 5, 2, 10);
        goes(over + 5, 1, over + 3, over + 2);
        goes(5, 2, over + 1, BAD);
        turn(5, 2, over, BAD);
        turn(5, 2, -over, BAD);
        allAreBad((1L << 62) + 5, 2);
        allAreBad(-over + 5, 2);
    }

    private static void severalWrongNumbers() {
        goes(0, 0, 0, BAD);
        goes(Long.MAX_VALUE, Integer.MAX_VALUE, Long.MAX_VALUE, BAD);
        goes(Long.MIN_VALUE, Integer.MIN_VALUE, Long.MIN_VALUE, BAD);
        turn(0, 0, -1, BAD);
        turn(Long.MAX_VALUE, Integer.MAX_VALUE, Long.MAX_VALUE, BAD);
        turn(Long.MIN_VALUE, Integer.MIN_VALUE, Long.MIN_VALUE, BAD);
        last(0, 0, BAD);
        last(Long.MAX_VALUE, Integer.MAX_VALUE, BAD);
        last(Long.MIN_VALUE, Integer.MIN_VALUE, BAD);
    }
}
