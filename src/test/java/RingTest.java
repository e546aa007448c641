/** Promises 1, 7, 8, 12, 13, 14 and 15: a new object, ring, lives, turns, back, about, told. */
public final class RingTest {
    private static final Due due = new Due();

    public static void main(String[] args) {
        aNewObject();
        ringAnew();
        livesOfPeople();
        livesAreLostOneByOne();
        backwardCounts();
        theLongestRing();
        backAndAgain();
        refusals();
        due.end();
    }

    private static void told(CountedOut x, int ahead, int left, int done, int counted, int out) {
        int[] want = {ahead, left, done, counted, out};
        for (int what = 0; what < want.length; what++) {
            due.is("told(" + what + ") with " + done + " turns", x.told(what), want[what]);
        }
    }

    private static void aNewObject() {
        CountedOut x = new CountedOut();
        told(x, 0, 10, 0, CountedOut.NONE, CountedOut.NONE);
        for (int p = 0; p < 10; p++) {
            due.is("about(" + p + ", 0)", x.about(p, 0), 1);
            due.is("about(" + p + ", 1)", x.about(p, 1), CountedOut.NONE);
        }
        due.is("about(10, 0)", x.about(10, 0), CountedOut.BAD);
        due.is("back(1) of no turn", x.back(1), 0);
    }

    private static void ringAnew() {
        CountedOut x = new CountedOut();
        x.set(0, 2);
        x.set(1, 1);
        x.words(2, 1, 5, 0, 0, false);
        x.lives(4, 5);
        due.is("turns(4)", x.turns(4), 4);
        due.is("ring(40)", x.ring(40), 10);
        told(x, 0, 40, 0, CountedOut.NONE, CountedOut.NONE);
        for (int p = 0; p < 40; p++) {
            due.is("about(" + p + ", 0) anew", x.about(p, 0), 1);
            due.is("about(" + p + ", 1) anew", x.about(p, 1), CountedOut.NONE);
        }
        due.is("count(0), STEP, WORDS and KIND stay", x.count(0), 3);
        due.is("count(1), STEP, WORDS and KIND stay", x.count(1), 7);
        due.is("back(1) behind ring()", x.back(1), 0);
        due.is("ring(1)", x.ring(1), 40);
        due.is("turns(1) of one", x.turns(1), 0);
        told(x, 0, 1, 0, CountedOut.NONE, CountedOut.NONE);
        due.is("about(1, 0) of one", x.about(1, 0), CountedOut.BAD);
        due.is("ring(2)", x.ring(2), 1);
        due.is("ring(0)", x.ring(0), CountedOut.BAD);
        due.is("ring(2) again", x.ring(2), 2);
    }

    private static void livesOfPeople() {
        CountedOut x = new CountedOut();
        due.is("lives(9, 5)", x.lives(9, 5), 1);
        due.is("lives(9, 2)", x.lives(9, 2), 5);
        due.is("about(9, 0)", x.about(9, 0), 2);
        due.is("turns(1)", x.turns(1), 1);
        due.is("lives(9, 3) with a turn", x.lives(9, 3), CountedOut.STATE);
        due.is("about(9, 0), nothing changed", x.about(9, 0), 2);
        due.is("back(1)", x.back(1), 1);
        due.is("lives(9, 1) with no turn any more", x.lives(9, 1), 2);
    }

    private static void livesAreLostOneByOne() {
        CountedOut x = new CountedOut();
        x.ring(3);
        x.set(0, 2);
        x.lives(1, 2);
        x.turns(1);
        told(x, 2, 3, 1, 1, CountedOut.NONE);
        due.is("about(1, 0)", x.about(1, 0), 1);
        due.is("about(1, 1)", x.about(1, 1), CountedOut.NONE);
        x.turns(1);
        told(x, 1, 2, 2, 0, 0);
        due.is("about(0, 1)", x.about(0, 1), 1);
        x.turns(1);
        told(x, 1, 1, 3, 2, 2);
        due.is("about(2, 1)", x.about(2, 1), 2);
        due.is("about(1, 1) of the last", x.about(1, 1), CountedOut.NONE);
        due.is("turns(1) when it is over", x.turns(1), 0);
        x.back(2);
        told(x, 2, 3, 1, 1, CountedOut.NONE);
        x.back(1);
        told(x, 0, 3, 0, CountedOut.NONE, CountedOut.NONE);
        due.is("about(1, 0) as it was", x.about(1, 0), 2);
    }

    private static void backwardCounts() {
        CountedOut x = new CountedOut();
        x.ring(6);
        x.set(0, 1);
        x.set(1, 2);
        x.words(1, 1, 0, 0, 0, false);
        x.turns(1);
        told(x, 2, 5, 1, 1, 1);
        // Backward from ahead of 2: 0 is counted 1 (1 is out), 5 is counted 2.
        x.turns(1);
        told(x, 0, 4, 2, 5, 5);
        x.turns(1);
        told(x, 3, 3, 3, 2, 2);
        // Backward from ahead of 3: 0 is counted 1, 4 is counted 2.
        x.turns(1);
        told(x, 0, 2, 4, 4, 4);
        x.turns(1);
        told(x, 0, 1, 5, 3, 3);
    }

    private static void theLongestRing() {
        CountedOut x = new CountedOut();
        x.ring(40);
        for (int p = 0; p < 40; p++) {
            x.lives(p, 5);
        }
        x.set(0, 1);
        due.is("turns(200)", x.turns(200), 199);
        told(x, 39, 1, 199, 38, 38);
        due.is("about(39, 0)", x.about(39, 0), 1);
        due.is("about(0, 1)", x.about(0, 1), 1);
        due.is("about(38, 1)", x.about(38, 1), 39);
        due.is("turns(200) when it is over", x.turns(200), 0);
        due.is("back(200)", x.back(200), 199);
        told(x, 0, 40, 0, CountedOut.NONE, CountedOut.NONE);
        for (int p = 0; p < 40; p++) {
            due.is("about(" + p + ", 0) as it was", x.about(p, 0), 5);
            due.is("about(" + p + ", 1) as it was", x.about(p, 1), CountedOut.NONE);
        }
    }

    private static void backAndAgain() {
        CountedOut x = new CountedOut();
        x.set(1, 2);
        due.is("turns(9)", x.turns(9), 9);
        int last = x.told(0);
        for (int n = 1; n <= 9; n++) {
            due.is("back(" + n + ")", x.back(n), n);
            due.is("told(2)", x.told(2), 9 - n);
            due.is("turns(200)", x.turns(200), n);
            due.is("told(0)", x.told(0), last);
        }
        due.is("back(10)", x.back(10), 9);
    }

    private static void refusals() {
        CountedOut x = new CountedOut();
        for (int round = 0; round <= 1; round++) {
            for (int v : new int[] {0, -1, Integer.MIN_VALUE, Integer.MAX_VALUE}) {
                due.is("ring(" + v + ")", x.ring(v), CountedOut.BAD);
                due.is("turns(" + v + ")", x.turns(v), CountedOut.BAD);
                due.is("back(" + v + ")", x.back(v), CountedOut.BAD);
                due.is("lives(0, " + v + ")", x.lives(0, v), CountedOut.BAD);
            }
            for (int v : new int[] {-1, 10, 40, Integer.MIN_VALUE, Integer.MAX_VALUE}) {
                due.is("lives(" + v + ", 1)", x.lives(v, 1), CountedOut.BAD);
                due.is("about(" + v + ", 0)", x.about(v, 0), CountedOut.BAD);
                due.is("about(" + v + ", 1)", x.about(v, 1), CountedOut.BAD);
                due.is("about(0, " + v + ")", x.about(0, v), CountedOut.BAD);
                due.is("told(" + v + ")", x.told(v), CountedOut.BAD);
            }
            due.is("ring(41)", x.ring(41), CountedOut.BAD);
            due.is("turns(201)", x.turns(201), CountedOut.BAD);
            due.is("back(201)", x.back(201), CountedOut.BAD);
            due.is("lives(0, 6)", x.lives(0, 6), CountedOut.BAD);
            due.is("about(0, 2)", x.about(0, 2), CountedOut.BAD);
            due.is("told(5)", x.told(5), CountedOut.BAD);
            due.is("told(2), nothing changed", x.told(2), round);
            due.is("turns(1)", x.turns(1), 1);
        }
    }
}
