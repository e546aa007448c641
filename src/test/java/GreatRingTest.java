import java.util.ArrayList;
import java.util.List;

/** Promises 2, 3 and 4: goes, turn, last. */
public final class GreatRingTest {
    private static final long GREATEST = 1000000000000L;
    private static final Due due = new Due();

    public static void main(String[] args) {
        smallRingsAreGoneThrough();
        lastByTheSlowRule();
        lastOfCountTwo();
        goesAndTurnUndoOneAnother();
        countOneGoesInOrder();
        wrongNumbers();
        due.end();
    }

    /** An object is promised for 512 calls alone, so that each question here is put to a new one. */
    private static CountedOut fresh() {
        return new CountedOut();
    }

    private static List<Integer> order(int n, int k) {
        List<Integer> left = new ArrayList<>();
        for (int p = 0; p < n; p++) {
            left.add(p);
        }
        List<Integer> gone = new ArrayList<>();
        int at = 0;
        while (!left.isEmpty()) {
            at = (at + k - 1) % left.size();
            gone.add(left.remove(at));
        }
        return gone;
    }

    private static void smallRingsAreGoneThrough() {
        int[] counts = {1, 2, 3, 4, 5, 6, 7, 8, 9, 10, 11, 13, 17, 40, 41, 59, 60, 61, 100, 499, 720, 999, 1000};
        for (int n = 1; n <= 60; n++) {
            for (int k : counts) {
                compare(n, k);
            }
        }
        compare(1000, 1000);
        compare(1001, 1000);
        compare(2500, 2);
        compare(2500, 999);
    }

    private static void compare(int n, int k) {
        List<Integer> gone = order(n, k);
        for (int j = 1; j <= n; j++) {
            int place = gone.get(j - 1);
            due.is("goes(" + n + ", " + k + ", " + j + ")", fresh().goes(n, k, j), place);
            due.is("turn(" + n + ", " + k + ", " + place + ")", fresh().turn(n, k, place), j);
        }
        due.is("last(" + n + ", " + k + ")", fresh().last(n, k), gone.get(n - 1));
    }

    private static void lastByTheSlowRule() {
        for (int k : new int[] {2, 3, 7, 100, 999, 1000}) {
            long last = 0;
            for (int n = 2; n <= 300000; n++) {
                last = (last + k) % n;
                if (n % 9973 == 0 || n == 300000) {
                    due.is("last(" + n + ", " + k + ")", fresh().last(n, k), last);
                }
            }
        }
    }

    private static void lastOfCountTwo() {
        for (long n = 1; n <= GREATEST; n = n * 3 + 1) {
            due.is("last(" + n + ", 2)", fresh().last(n, 2), 2 * (n - Long.highestOneBit(n)));
        }
        due.is("last(greatest, 2)", fresh().last(GREATEST, 2), 2 * (GREATEST - Long.highestOneBit(GREATEST)));
    }

    private static void goesAndTurnUndoOneAnother() {
        long[] rings = {1, 2, 999, 1000, 1001, 123456789, 999999999999L, GREATEST};
        for (long n : rings) {
            for (int k : new int[] {1, 2, 3, 10, 500, 999, 1000}) {
                for (long j : new long[] {1, n / 3 + 1, n / 2 + 1, n - 1, n}) {
                    if (j < 1 || j > n) {
                        continue;
                    }
                    long place = fresh().goes(n, k, j);
                    String call = "(" + n + ", " + k + ", " + j + ")";
                    due.holds("goes" + call + " is a place", place >= 0 && place < n);
                    due.is("turn of goes" + call, fresh().turn(n, k, place), j);
                }
                due.is("goes(" + n + ", " + k + ", n)", fresh().goes(n, k, n), fresh().last(n, k));
                due.is("goes(" + n + ", " + k + ", 1)", fresh().goes(n, k, 1), (k - 1) % n);
            }
        }
    }

    private static void countOneGoesInOrder() {
        due.is("goes(greatest, 1, 1)", fresh().goes(GREATEST, 1, 1), 0);
        due.is("goes(greatest, 1, greatest)", fresh().goes(GREATEST, 1, GREATEST), GREATEST - 1);
        due.is("turn(greatest, 1, 0)", fresh().turn(GREATEST, 1, 0), 1);
        due.is("last(greatest, 1)", fresh().last(GREATEST, 1), GREATEST - 1);
    }

    private static void wrongNumbers() {
        for (long n : new long[] {0, -1, GREATEST + 1, Long.MIN_VALUE, Long.MAX_VALUE}) {
            due.is("goes of a ring of " + n, fresh().goes(n, 2, 1), CountedOut.BAD);
            due.is("turn of a ring of " + n, fresh().turn(n, 2, 0), CountedOut.BAD);
            due.is("last of a ring of " + n, fresh().last(n, 2), CountedOut.BAD);
        }
        for (int k : new int[] {0, -1, 1001, Integer.MIN_VALUE, Integer.MAX_VALUE}) {
            due.is("goes by " + k, fresh().goes(5, k, 1), CountedOut.BAD);
            due.is("turn by " + k, fresh().turn(5, k, 0), CountedOut.BAD);
            due.is("last by " + k, fresh().last(5, k), CountedOut.BAD);
        }
        for (long v : new long[] {-1, Long.MIN_VALUE, Long.MAX_VALUE, 6}) {
            due.is("goes(5, 2, " + v + ")", fresh().goes(5, 2, v), CountedOut.BAD);
            due.is("turn(5, 2, " + v + ")", fresh().turn(5, 2, v), CountedOut.BAD);
        }
        due.is("goes(5, 2, 0)", fresh().goes(5, 2, 0), CountedOut.BAD);
        due.is("turn(5, 2, 5)", fresh().turn(5, 2, 5), CountedOut.BAD);
    }
}
