/** The edges of 'A TURN', a method for each sentence that names one: counts that go round, either way. */
public final class TurnBoundsTest {
    private static final int NONE = CountedOut.NONE;
    private static final Due due = new Due();

    public static void main(String[] args) {
        oneStandsAheadOfZeroAtFirst();
        forwardTheOneAheadIsCountedOne();
        forwardCountsGoRound();
        backwardTheOneBehindIsCountedOne();
        backwardCountsGoRound();
        thoseThatAreOutAreLeftOut();
        thoseThatAreOutAreLeftOutBackward();
        whoHasLivesLeftStays();
        whoHasNoneLeftIsOut();
        theNextOneForwardBehindWhoWasCounted();
        theNextOneForwardThoughItWentBackward();
        aheadOfThemselvesIfAlone();
        turnsAreNumberedOnBehindBack();
        due.end();
    }

    private static CountedOut ringOf(int n, int step) {
        CountedOut x = new CountedOut();
        x.ring(n);
        x.set(0, step);
        return x;
    }

    /** A ring whose turns of odd numbers count backward; each count is the step and the word. */
    private static CountedOut turningRingOf(int n, int step, int even, int odd) {
        CountedOut x = ringOf(n, step);
        x.set(1, 2);
        x.words(2, even, odd, 0, 0, false);
        return x;
    }

    private static void turnTo(String when, CountedOut x, int counted, int ahead) {
        due.is("turns(1) " + when, x.turns(1), 1);
        due.is("told(3) " + when, x.told(3), counted);
        due.is("told(0) " + when, x.told(0), ahead);
    }

    // "one stands ahead of a person (of 0 at first)"

    private static void oneStandsAheadOfZeroAtFirst() {
        for (int n = 1; n <= 40; n++) {
            due.is("told(0) of " + n, ringOf(n, 20).told(0), 0);
        }
    }

    // "the c-th from there on, forward, that one counted 1"

    private static void forwardTheOneAheadIsCountedOne() {
        CountedOut x = ringOf(5, 1);
        for (int p = 0; p < 4; p++) {
            turnTo("by 1", x, p, p + 1);
        }
        turnTo("by 2", ringOf(5, 2), 1, 2);
    }

    private static void forwardCountsGoRound() {
        for (int n = 2; n <= 40; n++) {
            for (int step : new int[] {1, 2, 19, 20}) {
                int counted = (step - 1) % n;
                turnTo("of " + n + " by " + step, ringOf(n, step), counted, (counted + 1) % n);
            }
            for (int word : new int[] {1, 98, 99}) {
                CountedOut x = ringOf(n, 20);
                x.set(1, 1);
                x.words(1, word, 0, 0, 0, false);
                int counted = (20 + word - 1) % n;
                turnTo("of " + n + " by 20 and " + word, x, counted, (counted + 1) % n);
            }
        }
        turnTo("by just as many", ringOf(5, 5), 4, 0);
        turnTo("by one more", ringOf(5, 6), 0, 1);
        turnTo("by twice as many", ringOf(5, 10), 4, 0);
    }

    // "below 0 likewise backward, the one behind oneself counted 1"

    private static void backwardTheOneBehindIsCountedOne() {
        // The least count that goes backward is -2: a step of 1 and a word of 1.
        CountedOut x = turningRingOf(6, 1, 1, 1);
        x.lives(1, 5);
        turnTo("by 2", x, 1, 2);
        // Behind oneself, ahead of 2, is 1, then 0.
        turnTo("by -2", x, 0, 1);
        CountedOut y = turningRingOf(6, 1, 1, 1);
        turnTo("by 2, who goes out", y, 1, 2);
        turnTo("by -2, past who is out", y, 5, 0);
    }

    private static void backwardCountsGoRound() {
        for (int n = 2; n <= 40; n++) {
            for (int word : new int[] {1, n, 2 * n, 98, 99}) {
                CountedOut x = turningRingOf(n, 20, 1, word);
                for (int p = 0; p < n; p++) {
                    x.lives(p, 2);
                }
                int ahead = 21 % n;
                turnTo("of " + n + " by 21", x, 20 % n, ahead);
                int counted = Math.floorMod(ahead - 20 - word, n);
                turnTo("of " + n + " by -20 and " + word, x, counted, (counted + 1) % n);
            }
        }
    }

    // "those that are out left out"

    private static void thoseThatAreOutAreLeftOut() {
        CountedOut x = ringOf(6, 2);
        // 1, 3 and 5 go; then 0 is counted 1 and 2 is counted 2, past 1.
        turnTo("first round", x, 1, 2);
        turnTo("first round", x, 3, 4);
        turnTo("first round", x, 5, 0);
        turnTo("past 1", x, 2, 4);
        turnTo("past 5", x, 0, 4);
        due.is("about(4, 1), the last", x.about(4, 1), NONE);
        // Of two that are left each is counted each second time.
        CountedOut y = ringOf(3, 20);
        turnTo("by 20 of three", y, 1, 2);
        turnTo("by 20 of two", y, 0, 2);
    }

    private static void thoseThatAreOutAreLeftOutBackward() {
        CountedOut x = turningRingOf(5, 1, 1, 4);
        turnTo("by 2", x, 1, 2);
        // Backward of 0, 2, 3, 4 from ahead of 2: 0, 4, 3, 2, 0.
        turnTo("by -5", x, 0, 2);
        turnTo("by 2", x, 3, 4);
        // Of 2 and 4, from ahead of 4: 2, 4, 2, 4, 2.
        turnTo("by -5", x, 2, 4);
    }

    // "loses a LIFE"

    private static void whoHasLivesLeftStays() {
        CountedOut x = ringOf(2, 1);
        x.lives(0, 5);
        x.lives(1, 5);
        for (int lost = 1; lost <= 4; lost++) {
            turnTo("life " + lost, x, 0, 1);
            due.is("about(0, 0)", x.about(0, 0), 5 - lost);
            turnTo("life " + lost, x, 1, 0);
            due.is("about(1, 0)", x.about(1, 0), 5 - lost);
            due.is("told(1)", x.told(1), 2);
            due.is("told(4)", x.told(4), NONE);
        }
        turnTo("the fifth life", x, 0, 1);
        due.is("told(1) at the end", x.told(1), 1);
        due.is("about(1, 0) at the end", x.about(1, 0), 1);
    }

    // "Who has none left is out"

    private static void whoHasNoneLeftIsOut() {
        for (int lives = 1; lives <= 5; lives++) {
            CountedOut x = ringOf(2, 2);
            x.lives(1, lives);
            // 1 is counted 2 each time.
            for (int t = 1; t <= lives; t++) {
                due.is("turns(1)", x.turns(1), 1);
                due.is("told(1), life " + t + " of " + lives, x.told(1), t < lives ? 2 : 1);
                due.is("about(1, 0), life " + t + " of " + lives, x.about(1, 0), lives - t);
                due.is("about(1, 1), life " + t + " of " + lives, x.about(1, 1), t < lives ? NONE : 1);
            }
            due.is("turns(1) when 1 is out", x.turns(1), 0);
        }
    }

    // "one stands ahead of the next one forward, that is not out, behind the one who was counted"

    private static void theNextOneForwardBehindWhoWasCounted() {
        turnTo("behind the end is 0", ringOf(4, 4), 3, 0);
        CountedOut x = ringOf(4, 4);
        x.turns(1);
        // By 4 of 0, 1, 2: 0 goes, and 1 is next; by 4 of 1, 2: 2 goes, and behind it, past 3 and 0, is 1.
        turnTo("0 goes", x, 0, 1);
        turnTo("past 3 and 0", x, 2, 1);
    }

    // "(whichever way it went ..)"

    private static void theNextOneForwardThoughItWentBackward() {
        CountedOut x = turningRingOf(10, 1, 4, 1);
        turnTo("by 5", x, 4, 5);
        // Backward from ahead of 5: 3, then 2; the next one forward is 3.
        turnTo("by -2", x, 2, 3);
        CountedOut y = turningRingOf(4, 1, 3, 1);
        turnTo("by 4", y, 3, 0);
        // Backward from ahead of 0: 2, then 1; forward behind 1 is 2.
        turnTo("by -2", y, 1, 2);
        turnTo("by 4", y, 0, 2);
    }

    // "ahead of themselves, if they alone are left"

    private static void aheadOfThemselvesIfAlone() {
        for (int n = 2; n <= 40; n++) {
            CountedOut x = ringOf(n, 1);
            x.turns(200);
            due.is("told(0) with one left of " + n, x.told(0), n - 1);
        }
        due.is("told(0) of a ring of one", ringOf(1, 1).told(0), 0);
    }

    // The TURNS are numbered 0, 1, ..: one taken back gives its number to the next.

    private static void turnsAreNumberedOnBehindBack() {
        CountedOut x = turningRingOf(6, 1, 1, 1);
        turnTo("turn 0", x, 1, 2);
        turnTo("turn 1", x, 5, 0);
        x.back(1);
        turnTo("turn 1 again", x, 5, 0);
        x.back(2);
        turnTo("turn 0 again", x, 1, 2);
        x.ring(6);
        turnTo("turn 0 anew", x, 1, 2);
    }
}
