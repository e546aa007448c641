import java.util.ArrayList;
import java.util.List;

/** Promises 5 and 6: first, least. */
public final class HeapTest {
    private static final int COUNT_MOST = 10000;
    private static final Due due = new Due();

    public static void main(String[] args) {
        allHeapsOfSmallRings();
        leastOfSmallRings();
        heapsOfTheGreatestRing();
        noneForSomeHeap();
        theGreatestCount();
        wrongNumbers();
        due.end();
    }

    /** An object is promised for 512 calls alone, so that each question here is put to a new one. */
    private static CountedOut fresh() {
        return new CountedOut();
    }

    /** The first ones of a ring of n that k puts out, as bits. */
    private static int gone(int n, int many, int k) {
        List<Integer> left = new ArrayList<>();
        for (int p = 0; p < n; p++) {
            left.add(p);
        }
        int bits = 0;
        int at = 0;
        for (int i = 0; i < many; i++) {
            at = (at + k - 1) % left.size();
            bits |= 1 << left.remove(at);
        }
        return bits;
    }

    private static int plainFirst(int n, int heap, int k) {
        return gone(n, Integer.bitCount(heap), k) == heap ? 1 : 0;
    }

    private static int plainLeast(int n, int heap) {
        for (int k = 1; k <= COUNT_MOST; k++) {
            if (plainFirst(n, heap, k) == 1) {
                return k;
            }
        }
        return CountedOut.NONE;
    }

    private static void allHeapsOfSmallRings() {
        int[] counts = {1, 2, 3, 4, 5, 6, 7, 8, 9, 12, 20, 61, 420, 5040, 9999, 10000};
        for (int n = 2; n <= 9; n++) {
            for (int heap = 1; heap < (1 << n) - 1; heap++) {
                for (int k : counts) {
                    String call = "first(" + n + ", " + heap + ", " + k + ")";
                    due.is(call, fresh().first(n, heap, k), plainFirst(n, heap, k));
                }
            }
        }
    }

    private static void leastOfSmallRings() {
        for (int n = 2; n <= 7; n++) {
            for (int heap = 1; heap < (1 << n) - 1; heap++) {
                due.is("least(" + n + ", " + heap + ")", fresh().least(n, heap), plainLeast(n, heap));
            }
        }
    }

    private static void heapsOfTheGreatestRing() {
        int all = (1 << 20) - 1;
        for (int p = 0; p < 20; p++) {
            due.is("least(20, only " + p + ")", fresh().least(20, 1 << p), p + 1);
            int allButOne = all ^ 1 << p;
            due.is("least(20, all but " + p + ")", fresh().least(20, allButOne), plainLeast(20, allButOne));
        }
        for (int k = 1; k <= COUNT_MOST; k += 333) {
            due.is("first(20, 1023, " + k + ")", fresh().first(20, 1023, k), plainFirst(20, 1023, k));
        }
    }

    private static void noneForSomeHeap() {
        int nones = 0;
        for (int heap = 1; heap < (1 << 18) - 1; heap += 4099) {
            int want = plainLeast(18, heap);
            nones += want == CountedOut.NONE ? 1 : 0;
            due.is("least(18, " + heap + ")", fresh().least(18, heap), want);
        }
        due.holds("some heap has no least count", nones > 0);
    }

    private static void theGreatestCount() {
        due.is("least(20, what 10000 puts out)", fresh().least(20, gone(20, 10, 10000)), 10000);
        due.is("least(20, what 10001 puts out)", fresh().least(20, gone(20, 10, 10001)), CountedOut.NONE);
    }

    private static void wrongNumbers() {
        for (int n : new int[] {1, 0, -1, 21, 32, 33, Integer.MIN_VALUE, Integer.MAX_VALUE}) {
            due.is("first(" + n + ", 1, 1)", fresh().first(n, 1, 1), CountedOut.BAD);
            due.is("least(" + n + ", 1)", fresh().least(n, 1), CountedOut.BAD);
        }
        for (int heap : new int[] {0, -1, 31, 32, 33, Integer.MIN_VALUE, Integer.MAX_VALUE}) {
            due.is("first(5, " + heap + ", 1)", fresh().first(5, heap, 1), CountedOut.BAD);
            due.is("least(5, " + heap + ")", fresh().least(5, heap), CountedOut.BAD);
        }
        for (int k : new int[] {0, -1, 10001, Integer.MIN_VALUE, Integer.MAX_VALUE}) {
            due.is("first(5, 1, " + k + ")", fresh().first(5, 1, k), CountedOut.BAD);
        }
        due.is("first(5, 16, 10000)", fresh().first(5, 16, 10000), 1);
        due.is("first(20, all but 19, 1)", fresh().first(20, (1 << 19) - 1, 1), 1);
        due.is("first(20, all, 1)", fresh().first(20, (1 << 20) - 1, 1), CountedOut.BAD);
    }
}
