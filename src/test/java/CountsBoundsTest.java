/** The edges of promises 9, 10, 11 and 18, a method for each sentence that names one. */
public final class CountsBoundsTest {
    private static final int BAD = CountedOut.BAD;
    private static final int STATE = CountedOut.STATE;
    private static final int BAD_COUNT = -1000;
    private static final Due due = new Due();

    public static void main(String[] args) {
        theStepIsOneToTwenty();
        theKindIsZeroToTwo();
        setIsOfZeroAndOne();
        setWaitsTillNoTurnWas();
        wordsAreOneToFour();
        eachWordIsOneToNinetyNine();
        otherWordsAreNotLookedAt();
        twiceIsTheOtherWayRound();
        wordsAreOneToEight();
        wordsWaitTillNoTurnWas();
        wordIsTModuloHowMany();
        theGreatestAndTheLeastCount();
        countsAreOfTurnsZeroToAHundredThousand();
        belowZeroInEachSecondTurn();
        countIsAskedWheneverOneLikes();
        theTraceIsZeroAtFirst();
        eachKindComesToTheTrace();
        aBadCountAndOtherCallsComeNotToTheTrace();
        due.end();
    }

    private static void set(CountedOut x, int what, int v, int want) {
        due.is("set(" + what + ", " + v + ")", x.set(what, v), want);
    }

    private static void count(CountedOut x, int t, int want) {
        due.is("count(" + t + ")", x.count(t), want);
    }

    private static CountedOut ofKind(int kind) {
        CountedOut x = new CountedOut();
        x.set(1, kind);
        return x;
    }

    // "a STEP s (1 .. 20)", "STEP (3 at first)"

    private static void theStepIsOneToTwenty() {
        CountedOut x = new CountedOut();
        count(x, 0, 3);
        set(x, 0, 1, 3);
        count(x, 0, 1);
        set(x, 0, 20, 1);
        count(x, 0, 20);
        for (int v : new int[] {0, -1, 21, Integer.MIN_VALUE, Integer.MAX_VALUE}) {
            set(x, 0, v, BAD);
            count(x, 0, 20);
        }
        set(x, 0, 20, 20);
        set(x, 0, 19, 20);
    }

    // "COUNTS are of KINDS ..: 0 FIXED (at first), 1 WORDY, 2 TURNING"

    private static void theKindIsZeroToTwo() {
        CountedOut x = new CountedOut();
        set(x, 1, 0, 0);
        count(x, 1, 3);
        set(x, 1, 1, 0);
        count(x, 1, 6);
        set(x, 1, 2, 1);
        count(x, 1, -6);
        for (int v : new int[] {-1, 3, 20, Integer.MIN_VALUE, Integer.MAX_VALUE}) {
            set(x, 1, v, BAD);
            count(x, 1, -6);
        }
        set(x, 1, 2, 2);
        set(x, 1, 0, 2);
        count(x, 1, 3);
    }

    // Promise 9: "STEP (what = 0), the KIND (1)"

    private static void setIsOfZeroAndOne() {
        CountedOut x = new CountedOut();
        for (int what : new int[] {-1, 2, 3, Integer.MIN_VALUE, Integer.MAX_VALUE}) {
            for (int v = -1; v <= 21; v++) {
                set(x, what, v, BAD);
            }
        }
        set(x, 0, 3, 3);
        set(x, 1, 0, 0);
    }

    // Promise 9: "STATE: a TURN was"

    private static void setWaitsTillNoTurnWas() {
        CountedOut x = new CountedOut();
        x.turns(1);
        for (int when = 0; when <= 1; when++) {
            set(x, 0, 5, STATE);
            set(x, 1, 1, STATE);
            set(x, 0, 0, BAD);
            set(x, 0, 21, BAD);
            set(x, 1, -1, BAD);
            set(x, 1, 3, BAD);
            set(x, 2, 1, BAD);
            count(x, 0, 3);
            x.turns(200);
        }
        x.back(200);
        set(x, 0, 5, 3);
        set(x, 1, 1, 0);
        x.turns(1);
        x.ring(10);
        set(x, 0, 6, 5);
        set(x, 1, 2, 1);
        x.ring(1);
        x.turns(1);
        set(x, 0, 7, 6);
    }

    // Promise 10: "n of a, b, c, d (1 .. 4 ..)"

    private static void wordsAreOneToFour() {
        CountedOut x = ofKind(1);
        for (int n = 1; n <= 4; n++) {
            due.is("words(" + n + ", .., false)", x.words(n, 10, 20, 30, 40, false), n);
            for (int t = 0; t < 9; t++) {
                count(x, t, 3 + 10 * (t % n + 1));
            }
        }
        for (int n : new int[] {0, -1, 5, 8, Integer.MIN_VALUE, Integer.MAX_VALUE}) {
            due.is("words(" + n + ", .., false)", x.words(n, 1, 1, 1, 1, false), BAD);
            due.is("words(" + n + ", .., true)", x.words(n, 1, 1, 1, 1, true), BAD);
        }
        count(x, 3, 43);
    }

    // "1 .. 99 each"

    private static void eachWordIsOneToNinetyNine() {
        CountedOut x = ofKind(1);
        due.is("words of 1 and 99", x.words(4, 1, 99, 99, 1, false), 4);
        for (int w : new int[] {0, -1, 100, Integer.MIN_VALUE, Integer.MAX_VALUE}) {
            for (int n = 1; n <= 4; n++) {
                for (int at = 0; at < n; at++) {
                    int[] row = {5, 5, 5, 5};
                    row[at] = w;
                    String call = "words(" + n + ", .. " + w + " at " + at + " ..)";
                    due.is(call, x.words(n, row[0], row[1], row[2], row[3], n % 2 == 0), BAD);
                }
            }
        }
        int[] counts = {4, 102, 102, 4};
        for (int t = 0; t < 4; t++) {
            count(x, t, counts[t]);
        }
    }

    // Promise 10: "(.. others are not looked at)"

    private static void otherWordsAreNotLookedAt() {
        for (int w : new int[] {0, -1, 100, Integer.MIN_VALUE, Integer.MAX_VALUE}) {
            CountedOut x = ofKind(1);
            due.is("words(1, 7, w, w, w)", x.words(1, 7, w, w, w, true), 2);
            count(x, 1, 10);
            due.is("words(2, 7, 8, w, w)", x.words(2, 7, 8, w, w, true), 4);
            count(x, 2, 11);
            due.is("words(3, 7, 8, 9, w)", x.words(3, 7, 8, 9, w, true), 6);
            count(x, 3, 12);
        }
    }

    // Promise 10: "and those again behind them the other way round, if twice: how many they are"

    private static void twiceIsTheOtherWayRound() {
        int[][] rows = {{10, 10}, {10, 20, 20, 10}, {10, 20, 30, 30, 20, 10}, {10, 20, 30, 40, 40, 30, 20, 10}};
        for (int n = 1; n <= 4; n++) {
            CountedOut x = ofKind(1);
            int[] row = rows[n - 1];
            due.is("words(" + n + ", .., true)", x.words(n, 10, 20, 30, 40, true), row.length);
            for (int t = 0; t <= 2 * row.length; t++) {
                count(x, t, 3 + row[t % row.length]);
            }
        }
    }

    // "WORDS: a row of counts (1 .. 8 of them ..; 3 at first)"

    private static void wordsAreOneToEight() {
        CountedOut x = ofKind(1);
        for (int t : new int[] {0, 1, 7, 100000}) {
            count(x, t, 6);
        }
        due.is("eight WORDS", x.words(4, 1, 2, 3, 4, true), 8);
        count(x, 7, 4);
        count(x, 8, 4);
        count(x, 4, 7);
        due.is("one WORD", x.words(1, 9, 2, 3, 4, false), 1);
        for (int t = 0; t <= 8; t++) {
            count(x, t, 12);
        }
        due.is("eight WORDS again", x.words(4, 5, 6, 7, 8, true), 8);
        count(x, 7, 8);
    }

    // Promise 10: "BAD; STATE: a TURN was"

    private static void wordsWaitTillNoTurnWas() {
        CountedOut x = ofKind(1);
        x.turns(1);
        for (int when = 0; when <= 1; when++) {
            due.is("words(1, 5), a turn was", x.words(1, 5, 0, 0, 0, false), STATE);
            due.is("words(4, .., true), a turn was", x.words(4, 1, 2, 3, 4, true), STATE);
            due.is("words(0), a turn was", x.words(0, 5, 5, 5, 5, false), BAD);
            due.is("words(5), a turn was", x.words(5, 5, 5, 5, 5, false), BAD);
            due.is("words(1, 0), a turn was", x.words(1, 0, 5, 5, 5, false), BAD);
            due.is("words(4, .. 100), a turn was", x.words(4, 5, 5, 5, 100, true), BAD);
            for (int t = 0; t < 8; t++) {
                count(x, t, 6);
            }
            x.turns(200);
        }
        x.back(200);
        due.is("words(1, 5), no turn was any more", x.words(1, 5, 0, 0, 0, false), 1);
        count(x, 0, 8);
        x.turns(1);
        x.ring(10);
        due.is("words(1, 6) behind ring()", x.words(1, 6, 0, 0, 0, false), 1);
        count(x, 0, 9);
    }

    // "WORD t modulo how many there are"

    private static void wordIsTModuloHowMany() {
        CountedOut x = ofKind(1);
        x.words(3, 1, 2, 3, 0, false);
        int[] turns = {0, 1, 2, 3, 99998, 99999, 100000};
        int[] words = {1, 2, 3, 1, 3, 1, 2};
        for (int i = 0; i < turns.length; i++) {
            count(x, turns[i], 3 + words[i]);
        }
    }

    private static void theGreatestAndTheLeastCount() {
        CountedOut x = ofKind(2);
        x.set(0, 20);
        x.words(1, 99, 0, 0, 0, false);
        count(x, 0, 119);
        count(x, 1, -119);
        x.set(0, 1);
        x.words(1, 1, 0, 0, 0, false);
        count(x, 0, 2);
        count(x, 1, -2);
        x.set(1, 0);
        count(x, 1, 1);
    }

    // Promise 11: "COUNT of a TURN (0 .. 100000). BAD is told as -1000."

    private static void countsAreOfTurnsZeroToAHundredThousand() {
        for (int kind = 0; kind <= 2; kind++) {
            CountedOut x = ofKind(kind);
            count(x, 0, kind == 0 ? 3 : 6);
            count(x, 99999, kind == 0 ? 3 : kind == 1 ? 6 : -6);
            count(x, 100000, kind == 0 ? 3 : 6);
            for (int t : new int[] {-1, -2, -100000, 100001, Integer.MIN_VALUE, Integer.MAX_VALUE}) {
                count(x, t, BAD_COUNT);
            }
        }
    }

    // "TURNING up, below 0 in each second TURN (t odd)"

    private static void belowZeroInEachSecondTurn() {
        CountedOut x = ofKind(2);
        x.words(3, 10, 20, 30, 0, false);
        int[] counts = {13, -23, 33, -13, 23, -33, 13};
        for (int t = 0; t < counts.length; t++) {
            count(x, t, counts[t]);
        }
        count(x, 99999, -13);
        count(x, 100000, 23);
    }

    // A COUNT is of the TURN that is asked for, whatever TURNS were.

    private static void countIsAskedWheneverOneLikes() {
        CountedOut x = ofKind(2);
        x.words(2, 10, 20, 0, 0, false);
        for (int done = 0; done <= 9; done++) {
            count(x, 0, 13);
            count(x, 1, -23);
            due.is("told(2), count() takes no turn", x.told(2), done);
            x.turns(1);
        }
        count(x, 100000, 13);
    }

    // Promise 18: "THE TRACE"; "numbers in brackets come to THE TRACE as often as count() asks that body"

    private static void theTraceIsZeroAtFirst() {
        CountedOut x = new CountedOut();
        due.is("trace() at first", x.trace(), 0);
        due.is("trace() again", x.trace(), 0);
    }

    private static void eachKindComesToTheTrace() {
        int[] tolls = {1, 11, 111};
        for (int kind = 0; kind <= 2; kind++) {
            CountedOut x = ofKind(kind);
            for (int times = 1; times <= 12; times++) {
                x.count(times * 7);
                due.is("trace(), kind " + kind + ", " + times + " counts", x.trace(), times * tolls[kind]);
            }
        }
        CountedOut x = new CountedOut();
        for (int kind = 0; kind <= 2; kind++) {
            x.set(1, kind);
            x.count(100000);
        }
        due.is("trace() of all kinds", x.trace(), 123);
    }

    private static void aBadCountAndOtherCallsComeNotToTheTrace() {
        CountedOut x = ofKind(2);
        count(x, -1, BAD_COUNT);
        count(x, 100001, BAD_COUNT);
        due.is("trace() behind BAD counts", x.trace(), 0);
        x.turns(200);
        x.back(3);
        x.told(0);
        x.about(0, 1);
        x.may(5, 3);
        x.least(5, 3);
        due.is("trace() behind other calls", x.trace(), 0);
        x.count(5);
        x.back(200);
        x.ring(40);
        x.set(1, 0);
        x.words(1, 1, 0, 0, 0, false);
        due.is("trace() stays", x.trace(), 111);
    }
}
