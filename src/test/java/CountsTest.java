/** Promises 9, 10, 11 and 18: set, words, count, trace. */
public final class CountsTest {
    private static final Due due = new Due();

    public static void main(String[] args) {
        atFirst();
        kindsStandOverOneAnother();
        wordsAndTheirMirror();
        onlyCountComesToTheTrace();
        refusals();
        due.end();
    }

    private static void atFirst() {
        CountedOut x = new CountedOut();
        due.is("trace() at first", x.trace(), 0);
        due.is("count(0) at first", x.count(0), 3);
        due.is("count(100000) at first", x.count(100000), 3);
        due.is("set(0, 20) at first", x.set(0, 20), 3);
        due.is("set(1, 1) at first", x.set(1, 1), 0);
        due.is("count(5), WORDS at first", x.count(5), 23);
    }

    private static void kindsStandOverOneAnother() {
        CountedOut x = new CountedOut();
        due.is("set(0, 20)", x.set(0, 20), 3);
        due.is("words", x.words(3, 99, 1, 50, 0, false), 3);
        int[] row = {99, 1, 50};
        for (int kind = 0; kind <= 2; kind++) {
            due.is("set(1, " + kind + ")", x.set(1, kind), kind == 0 ? 0 : kind - 1);
            for (int t : new int[] {0, 1, 2, 3, 4, 5, 6, 99998, 99999, 100000}) {
                int up = kind == 0 ? 20 : 20 + row[t % 3];
                due.is("kind " + kind + " count(" + t + ")", x.count(t), kind == 2 && t % 2 == 1 ? -up : up);
            }
        }
        due.is("trace()", x.trace(), 10 * (1 + 11 + 111));
        due.is("set(1, 0)", x.set(1, 0), 2);
        due.is("set(0, 1)", x.set(0, 1), 20);
        due.is("count(1)", x.count(1), 1);
    }

    private static void wordsAndTheirMirror() {
        int[] told = {7, 2, 9, 4};
        for (int n = 1; n <= 4; n++) {
            for (int twice = 0; twice <= 1; twice++) {
                CountedOut x = new CountedOut();
                x.set(1, 1);
                int many = twice == 1 ? 2 * n : n;
                String call = "words(" + n + ", .., " + twice + ")";
                due.is(call, x.words(n, 7, n > 1 ? 2 : -5, n > 2 ? 9 : 100, n > 3 ? 4 : 0, twice == 1), many);
                for (int t = 0; t < 20; t++) {
                    int at = t % many;
                    due.is(call + " count(" + t + ")", x.count(t), 3 + told[at < n ? at : 2 * n - 1 - at]);
                }
            }
        }
        CountedOut y = new CountedOut();
        y.set(1, 1);
        y.words(4, 1, 2, 3, 4, true);
        due.is("fewer words later", y.words(1, 8, 0, 0, 0, true), 2);
        due.is("count(1) of fewer words", y.count(1), 11);
        due.is("count(2) of fewer words", y.count(2), 11);
        due.is("count(7) of fewer words", y.count(7), 11);
    }

    private static void onlyCountComesToTheTrace() {
        CountedOut x = new CountedOut();
        x.set(1, 2);
        x.turns(9);
        x.back(3);
        x.told(0);
        due.is("trace() without count()", x.trace(), 0);
        due.is("count(-1)", x.count(-1), -1000);
        due.is("trace() behind a BAD count()", x.trace(), 0);
        x.count(0);
        x.ring(5);
        due.is("trace() stays over ring()", x.trace(), 111);
        x.set(1, 0);
        x.count(0);
        due.is("trace()", x.trace(), 112);
        due.is("trace() again", x.trace(), 112);
    }

    private static void refusals() {
        CountedOut x = new CountedOut();
        for (int round = 0; round <= 1; round++) {
            String when = round == 0 ? " ahead of turns" : " with a turn";
            for (int v : new int[] {0, -1, 21, Integer.MIN_VALUE, Integer.MAX_VALUE}) {
                due.is("set(0, " + v + ")" + when, x.set(0, v), CountedOut.BAD);
            }
            for (int v : new int[] {-1, 3, Integer.MIN_VALUE, Integer.MAX_VALUE}) {
                due.is("set(1, " + v + ")" + when, x.set(1, v), CountedOut.BAD);
                due.is("set(" + (v == 3 ? 2 : v) + ", 1)" + when, x.set(v == 3 ? 2 : v, 1), CountedOut.BAD);
            }
            for (int n : new int[] {0, -1, 5, Integer.MIN_VALUE, Integer.MAX_VALUE}) {
                due.is("words(" + n + ", ..)" + when, x.words(n, 1, 1, 1, 1, false), CountedOut.BAD);
            }
            for (int w : new int[] {0, -1, 100, Integer.MIN_VALUE, Integer.MAX_VALUE}) {
                due.is("words, a " + w + when, x.words(1, w, 1, 1, 1, false), CountedOut.BAD);
                due.is("words, b " + w + when, x.words(2, 1, w, 1, 1, false), CountedOut.BAD);
                due.is("words, c " + w + when, x.words(3, 1, 1, w, 1, true), CountedOut.BAD);
                due.is("words, d " + w + when, x.words(4, 1, 1, 1, w, true), CountedOut.BAD);
            }
            for (int t : new int[] {-1, 100001, Integer.MIN_VALUE, Integer.MAX_VALUE}) {
                due.is("count(" + t + ")" + when, x.count(t), -1000);
            }
            due.is("turns(1)", x.turns(1), 1);
            due.is("set(0, 5)" + when, x.set(0, 5), CountedOut.STATE);
            due.is("set(1, 1)" + when, x.set(1, 1), CountedOut.STATE);
            due.is("words" + when, x.words(1, 5, 0, 0, 0, false), CountedOut.STATE);
        }
        due.is("back(2)", x.back(2), 2);
        due.is("set(1, 1), nothing changed", x.set(1, 1), 0);
        due.is("count(0), nothing changed", x.count(0), 6);
        due.is("count(1), nothing changed", x.count(1), 6);
    }
}
