/** The edges of promises 5 and 6, a method for each sentence that names one. */
public final class HeapBoundsTest {
    private static final int BAD = CountedOut.BAD;
    private static final int NONE = CountedOut.NONE;
    private static final Due due = new Due();

    public static void main(String[] args) {
        theLeastRingIsOfTwo();
        theGreatestRingIsOfTwenty();
        noRingBelowTwoOrAboveTwenty();
        anEmptyHeapIsBad();
        aHeapOfAllIsBad();
        aHeapOfPlacesThatAreNotThereIsBad();
        countsAreOneToTenThousand();
        aHeapGoesFirstInAnyOrder();
        aHeapOfAllButOneGoesFirstIfThatOneIsTheLast();
        countsGoRoundAndRound();
        theLeastCountIsTheLeast();
        theLeastCountIsOneToTenThousand();
        severalWrongNumbers();
        due.end();
    }

    private static void first(int n, int heap, int k, int want) {
        due.is("first(" + n + ", " + heap + ", " + k + ")", new CountedOut().first(n, heap, k), want);
    }

    private static void least(int n, int heap, int want) {
        due.is("least(" + n + ", " + heap + ")", new CountedOut().least(n, heap), want);
    }

    private static void bothAreBad(int n, int heap) {
        first(n, heap, 1, BAD);
        first(n, heap, 10000, BAD);
        least(n, heap, BAD);
    }

    private static int all(int n) {
        return (1 << n) - 1;
    }

    // "A HEAP (bits) of a ring of n (2 .. 20)"

    private static void theLeastRingIsOfTwo() {
        first(2, 1, 1, 1);
        first(2, 2, 1, 0);
        first(2, 1, 2, 0);
        first(2, 2, 2, 1);
        first(2, 1, 9999, 1);
        first(2, 2, 10000, 1);
        least(2, 1, 1);
        least(2, 2, 2);
    }

    private static void theGreatestRingIsOfTwenty() {
        first(20, 1, 1, 1);
        first(20, 1 << 19, 20, 1);
        first(20, 1 << 19, 19, 0);
        first(20, all(19), 1, 1);
        first(20, all(19) << 1, 1, 0);
        least(20, 1, 1);
        least(20, 1 << 19, 20);
        least(20, all(19), 1);
        least(19, 1 << 18, 19);
    }

    private static void noRingBelowTwoOrAboveTwenty() {
        for (int n : new int[] {1, 0, -1, -20, 21, 31, 32, 33, 34, 52, 64, Integer.MIN_VALUE, Integer.MAX_VALUE}) {
            bothAreBad(n, 1);
            bothAreBad(n, 2);
            bothAreBad(n, all(20) - 1);
        }
    }

    // "BAD: .. an empty HEAP, all, too"

    private static void anEmptyHeapIsBad() {
        for (int n = 2; n <= 20; n++) {
            bothAreBad(n, 0);
        }
    }

    private static void aHeapOfAllIsBad() {
        for (int n = 2; n <= 20; n++) {
            bothAreBad(n, all(n));
            first(n, all(n) - 1, 1, 0);
            first(n, all(n - 1), 1, 1);
        }
    }

    // "BAD (.. there is no such thing)"

    private static void aHeapOfPlacesThatAreNotThereIsBad() {
        for (int n = 2; n <= 20; n++) {
            bothAreBad(n, 1 << n);
            bothAreBad(n, 1 << n | 1);
            bothAreBad(n, 1 << 31 | 1);
            bothAreBad(n, 1 << 30 | 2);
            bothAreBad(n, -1);
            bothAreBad(n, Integer.MAX_VALUE);
            bothAreBad(n, Integer.MIN_VALUE);
        }
    }

    // "BAD: k 1 .. 10000"

    private static void countsAreOneToTenThousand() {
        for (int n : new int[] {2, 5, 20}) {
            for (int k : new int[] {0, -1, -10000, 10001, Integer.MIN_VALUE, Integer.MAX_VALUE}) {
                first(n, 1, k, BAD);
                first(n, 2, k, BAD);
            }
        }
        first(5, 1, 1, 1);
        first(5, 16, 1, 0);
        first(5, 8, 9999, 1);
        first(5, 16, 10000, 1);
        first(5, 1, 10000, 0);
    }

    // "it GOES FIRST, if its PLACES are all out ahead of each other one"

    private static void aHeapGoesFirstInAnyOrder() {
        // By 3 of 0 .. 4 there go 2, 0, 4, 1 and 3.
        int[] gone = {2, 0, 4, 1};
        int heap = 0;
        for (int place : gone) {
            heap |= 1 << place;
            first(5, heap, 3, 1);
        }
        first(5, 1, 3, 0);
        first(5, 1 << 2 | 1 << 4, 3, 0);
        first(5, 1 << 0 | 1 << 4, 3, 0);
        first(5, 1 << 2 | 1 << 0 | 1 << 1, 3, 0);
        first(5, 1 << 2 | 1 << 0 | 1 << 4 | 1 << 3, 3, 0);
    }

    private static void aHeapOfAllButOneGoesFirstIfThatOneIsTheLast() {
        for (int n = 2; n <= 20; n++) {
            for (int k : new int[] {1, 2, 3, 20, 21, 1000}) {
                int theLast = (int) new CountedOut().last(n, k);
                for (int p = 0; p < n; p++) {
                    first(n, all(n) ^ 1 << p, k, p == theLast ? 1 : 0);
                }
            }
        }
    }

    private static void countsGoRoundAndRound() {
        for (int n : new int[] {2, 3, 19, 20}) {
            for (int k : new int[] {1, n - 1, n, n + 1, 2 * n, 2 * n + 1, 9999, 10000}) {
                for (int p = 0; p < n; p++) {
                    first(n, 1 << p, k, p == (k - 1) % n ? 1 : 0);
                }
            }
        }
    }

    // "THE LEAST COUNT of it: the least k of 1 .. 10000 by which it GOES FIRST; NONE"

    private static void theLeastCountIsTheLeast() {
        for (int n = 2; n <= 20; n++) {
            for (int p = 0; p < n; p++) {
                least(n, 1 << p, p + 1);
            }
        }
        // Of 0 .. 3 there go 2 and 1 by 3, 3 and 0 by 4; 0 goes by 5 and 1 by 6; 2 and 3 go by 7.
        least(4, 12, 7);
        least(6, 56, 5);
    }

    private static void theLeastCountIsOneToTenThousand() {
        int byTheGreatest = heapThatGoes(20, 10, 10000);
        least(20, byTheGreatest, 10000);
        first(20, byTheGreatest, 10000, 1);
        first(20, byTheGreatest, 9999, 0);
        int byOneMore = heapThatGoes(20, 10, 10001);
        least(20, byOneMore, NONE);
        first(20, byOneMore, 10000, 0);
        first(20, byOneMore, 10001, BAD);
        int byOneLess = heapThatGoes(20, 10, 9999);
        due.holds("by 9999 there goes another heap than by 10000", byOneLess != byTheGreatest);
        first(20, byOneLess, 9999, 1);
    }

    /** The places of the ring of n that k puts out first, walked one by one. */
    private static int heapThatGoes(int n, int many, int k) {
        int heap = 0;
        int at = n - 1;
        for (int i = 0; i < many; i++) {
            for (int c = 0; c < k; c++) {
                do {
                    at = (at + 1) % n;
                } while ((heap >> at & 1) == 1);
            }
            heap |= 1 << at;
        }
        return heap;
    }

    private static void severalWrongNumbers() {
        first(0, 0, 0, BAD);
        first(1, 0, 1, BAD);
        first(1, 1, 1, BAD);
        first(21, 0, 10001, BAD);
        first(Integer.MAX_VALUE, Integer.MAX_VALUE, Integer.MAX_VALUE, BAD);
        first(Integer.MIN_VALUE, Integer.MIN_VALUE, Integer.MIN_VALUE, BAD);
        least(0, 0, BAD);
        least(1, 0, BAD);
        least(Integer.MAX_VALUE, Integer.MAX_VALUE, BAD);
        least(Integer.MIN_VALUE, Integer.MIN_VALUE, BAD);
    }
}
