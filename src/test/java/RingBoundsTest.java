/** The edges of promises 1, 7, 8 and 12 to 15, a method for each sentence that names one. */
public final class RingBoundsTest {
    private static final int BAD = CountedOut.BAD;
    private static final int STATE = CountedOut.STATE;
    private static final int NONE = CountedOut.NONE;
    private static final int[] FAR = {Integer.MIN_VALUE, -100, -2, 1000, Integer.MAX_VALUE};
    private static final Due due = new Due();

    public static void main(String[] args) {
        tenPeopleAtFirst();
        theRingIsOfOneToForty();
        ringTellsHowManyThereWere();
        ringAnewKeepsWordsStepAndKind();
        ringAnewGivesAllOneLife();
        ringAnewForgetsItsTurns();
        peopleAreNumberedFromZeroOn();
        livesAreOneToFive();
        livesWaitTillNoTurnWas();
        turnsAreOneToTwoHundred();
        asManyTurnsAsThereAre();
        aRingOfOneHasNoTurn();
        aRingOfTwoHasOneTurn();
        theLongestRing();
        noTurnWhenOneIsLeft();
        backIsOneToTwoHundred();
        asManyTurnsBackAsThereWere();
        backIsAsIfTheTurnHadNotBeen();
        aboutALifeLostAndAPersonOut();
        aboutIsOfZeroAndOne();
        toldIsOfZeroToFour();
        toldOfNoTurn();
        toldOfALifeLostAndNoneOut();
        due.end();
    }

    private static CountedOut ringOf(int n, int step) {
        CountedOut x = new CountedOut();
        due.is("ring(" + n + ") of a new object", x.ring(n), 10);
        due.is("set(0, " + step + ") of a new object", x.set(0, step), 3);
        return x;
    }

    private static void told(String when, CountedOut x, int... want) {
        for (int what = 0; what < want.length; what++) {
            due.is("told(" + what + ") " + when, x.told(what), want[what]);
        }
    }

    private static void everyone(String when, CountedOut x, int n, int lives) {
        for (int p = 0; p < n; p++) {
            due.is("about(" + p + ", 0) " + when, x.about(p, 0), lives);
            due.is("about(" + p + ", 1) " + when, x.about(p, 1), NONE);
        }
        due.is("about(n, 0) " + when, x.about(n, 0), BAD);
        due.is("about(n, 1) " + when, x.about(n, 1), BAD);
    }

    // "THE RING has n (1 .. 40; 10 at first) PEOPLE"

    private static void tenPeopleAtFirst() {
        CountedOut x = new CountedOut();
        told("at first", x, 0, 10, 0, NONE, NONE);
        everyone("at first", x, 10, 1);
        due.is("ring(10) at first", x.ring(10), 10);
    }

    private static void theRingIsOfOneToForty() {
        CountedOut x = new CountedOut();
        due.is("ring(1)", x.ring(1), 10);
        told("of one", x, 0, 1, 0, NONE, NONE);
        everyone("of one", x, 1, 1);
        due.is("ring(40)", x.ring(40), 1);
        told("of forty", x, 0, 40, 0, NONE, NONE);
        everyone("of forty", x, 40, 1);
        due.is("ring(0)", x.ring(0), BAD);
        due.is("ring(-1)", x.ring(-1), BAD);
        due.is("ring(41)", x.ring(41), BAD);
        for (int n : FAR) {
            due.is("ring(" + n + ")", x.ring(n), BAD);
        }
        told("of forty still", x, 0, 40, 0, NONE, NONE);
        due.is("ring(39)", x.ring(39), 40);
    }

    // Promise 7: "how many there were"

    private static void ringTellsHowManyThereWere() {
        CountedOut x = new CountedOut();
        due.is("turns(9)", x.turns(9), 9);
        due.is("ring(7), though one was left", x.ring(7), 10);
        due.is("turns(200)", x.turns(200), 6);
        due.is("ring(7) again", x.ring(7), 7);
        due.is("ring(7) once more", x.ring(7), 7);
    }

    // Promise 7: "WORDS, STEP, KIND stay"

    private static void ringAnewKeepsWordsStepAndKind() {
        CountedOut x = new CountedOut();
        due.is("set(0, 20)", x.set(0, 20), 3);
        due.is("set(1, 2)", x.set(1, 2), 0);
        due.is("words(4, .., true)", x.words(4, 1, 2, 3, 99, true), 8);
        due.is("turns(3)", x.turns(3), 3);
        due.is("ring(40)", x.ring(40), 10);
        int[] counts = {21, -22, 23, -119, 119, -23, 22, -21, 21};
        for (int t = 0; t < counts.length; t++) {
            due.is("count(" + t + ") behind ring()", x.count(t), counts[t]);
        }
        due.is("set(0, 1) behind ring()", x.set(0, 1), 20);
        due.is("set(1, 0) behind ring()", x.set(1, 0), 2);
    }

    // Promise 7: "all LIVES 1"

    private static void ringAnewGivesAllOneLife() {
        CountedOut x = new CountedOut();
        x.ring(40);
        for (int p = 0; p < 40; p++) {
            due.is("lives(" + p + ", 5)", x.lives(p, 5), 1);
        }
        due.is("ring(40) with LIVES", x.ring(40), 40);
        everyone("behind ring(40)", x, 40, 1);
        for (int p = 0; p < 40; p++) {
            due.is("lives(" + p + ", 5) anew", x.lives(p, 5), 1);
        }
        due.is("ring(1) with LIVES", x.ring(1), 40);
        due.is("ring(40) behind ring(1)", x.ring(40), 1);
        everyone("behind ring(1) and ring(40)", x, 40, 1);
    }

    // Promise 7: "THE RING anew"

    private static void ringAnewForgetsItsTurns() {
        CountedOut x = ringOf(10, 3);
        due.is("turns(9)", x.turns(9), 9);
        due.is("ring(10)", x.ring(10), 10);
        told("anew", x, 0, 10, 0, NONE, NONE);
        everyone("anew", x, 10, 1);
        due.is("back(200) anew", x.back(200), 0);
        due.is("lives(0, 2) anew", x.lives(0, 2), 1);
        due.is("set(0, 1) anew", x.set(0, 1), 3);
        due.is("words(..) anew", x.words(1, 1, 0, 0, 0, false), 1);
        due.is("turns(1) anew", x.turns(1), 1);
        told("with one turn anew", x, 1, 10, 1, 0, NONE);
    }

    // "PEOPLE, numbered from 0 on"

    private static void peopleAreNumberedFromZeroOn() {
        for (int n : new int[] {1, 2, 10, 39, 40}) {
            CountedOut x = new CountedOut();
            x.ring(n);
            due.is("lives(0, 2) of " + n, x.lives(0, 2), 1);
            due.is("lives(n - 1, 3) of " + n, x.lives(n - 1, 3), n == 1 ? 2 : 1);
            due.is("about(n - 1, 0) of " + n, x.about(n - 1, 0), 3);
            nobody(x, -1);
            nobody(x, n);
            nobody(x, 40);
            for (int p : FAR) {
                nobody(x, p);
            }
        }
    }

    private static void nobody(CountedOut x, int person) {
        due.is("lives(" + person + ", 1)", x.lives(person, 1), BAD);
        due.is("about(" + person + ", 0)", x.about(person, 0), BAD);
        due.is("about(" + person + ", 1)", x.about(person, 1), BAD);
    }

    // "each with LIVES (1 .. 5; 1 at first)"

    private static void livesAreOneToFive() {
        CountedOut x = new CountedOut();
        for (int v = 1; v <= 5; v++) {
            due.is("lives(9, " + v + ")", x.lives(9, v), v == 1 ? 1 : v - 1);
        }
        for (int v : new int[] {0, -1, 6, Integer.MIN_VALUE, Integer.MAX_VALUE}) {
            due.is("lives(9, " + v + ")", x.lives(9, v), BAD);
            due.is("about(9, 0), nothing changed", x.about(9, 0), 5);
        }
        due.is("about(8, 0), another one's", x.about(8, 0), 1);
        due.is("lives(9, 1)", x.lives(9, 1), 5);
    }

    // Promise 8: "STATE: a TURN was"

    private static void livesWaitTillNoTurnWas() {
        CountedOut x = new CountedOut();
        due.is("lives(0, 2), no turn was", x.lives(0, 2), 1);
        x.turns(1);
        due.is("lives(0, 3), a turn was", x.lives(0, 3), STATE);
        due.is("lives(2, 1) of who is out", x.lives(2, 1), STATE);
        due.is("lives(10, 3), a turn was", x.lives(10, 3), BAD);
        due.is("lives(0, 6), a turn was", x.lives(0, 6), BAD);
        due.is("lives(0, 0), a turn was", x.lives(0, 0), BAD);
        due.is("about(0, 0), nothing changed", x.about(0, 0), 2);
        due.is("about(2, 0), nothing changed", x.about(2, 0), 0);
        x.turns(200);
        due.is("lives(0, 3) when it is over", x.lives(0, 3), STATE);
        x.back(200);
        due.is("lives(0, 3), no turn was any more", x.lives(0, 3), 2);
        x.turns(1);
        x.ring(10);
        due.is("lives(0, 3) behind ring()", x.lives(0, 3), 1);
    }

    // Promise 12: "n TURNS (1 .. 200)"

    private static void turnsAreOneToTwoHundred() {
        CountedOut x = new CountedOut();
        for (int n : new int[] {0, -1, 201, Integer.MIN_VALUE, Integer.MAX_VALUE}) {
            due.is("turns(" + n + ")", x.turns(n), BAD);
        }
        told("behind BAD turns", x, 0, 10, 0, NONE, NONE);
        due.is("turns(1)", x.turns(1), 1);
        due.is("turns(200)", x.turns(200), 8);
        for (int n : new int[] {0, 201}) {
            due.is("turns(" + n + ") when it is over", x.turns(n), BAD);
        }
        told("when it is over", x, 3, 1, 9, 9, 9);
    }

    // Promise 12: "as many as there are: how many were done"

    private static void asManyTurnsAsThereAre() {
        for (int n : new int[] {2, 3, 10, 39, 40}) {
            CountedOut x = ringOf(n, 2);
            due.is("turns(n - 2) of " + n, n > 2 ? x.turns(n - 2) : 0, n - 2);
            due.is("told(1) of " + n, x.told(1), 2);
            due.is("turns(2) of " + n, x.turns(2), 1);
            due.is("told(1) at the end of " + n, x.told(1), 1);
            due.is("told(2) at the end of " + n, x.told(2), n - 1);
            due.is("turns(1) at the end of " + n, x.turns(1), 0);
        }
        for (int n = 1; n <= 40; n++) {
            due.is("turns(n - 1) of " + n, n > 1 ? ringOf(n, 20).turns(n - 1) : 0, n - 1);
            due.is("turns(n) of " + n, ringOf(n, 20).turns(n), n - 1);
        }
    }

    // "THE RING is over when one is left; no TURN is then"

    private static void aRingOfOneHasNoTurn() {
        CountedOut x = ringOf(1, 1);
        due.is("lives(0, 5) of one", x.lives(0, 5), 1);
        due.is("turns(1) of one", x.turns(1), 0);
        due.is("turns(200) of one", x.turns(200), 0);
        told("of one", x, 0, 1, 0, NONE, NONE);
        due.is("about(0, 0) of one", x.about(0, 0), 5);
        due.is("about(0, 1) of one", x.about(0, 1), NONE);
        due.is("back(1) of one", x.back(1), 0);
        due.is("lives(0, 1), since no turn was", x.lives(0, 1), 5);
        due.is("set(0, 2), since no turn was", x.set(0, 2), 1);
        due.is("words(..), since no turn was", x.words(1, 1, 0, 0, 0, false), 1);
    }

    private static void aRingOfTwoHasOneTurn() {
        for (int step = 1; step <= 20; step++) {
            CountedOut x = ringOf(2, step);
            int out = (step - 1) % 2;
            due.is("turns(2) of two by " + step, x.turns(2), 1);
            told("of two by " + step, x, 1 - out, 1, 1, out, out);
            due.is("about(out, 1) of two", x.about(out, 1), 1);
            due.is("about(left, 1) of two", x.about(1 - out, 1), NONE);
        }
    }

    private static void theLongestRing() {
        CountedOut x = ringOf(40, 20);
        for (int p = 0; p < 40; p++) {
            x.lives(p, 5);
        }
        due.is("turns(198) of the longest", x.turns(198), 198);
        due.is("told(1) behind 198", x.told(1), 2);
        due.is("turns(200) behind 198", x.turns(200), 1);
        due.is("told(1) behind 199", x.told(1), 1);
        due.is("told(2) behind 199", x.told(2), 199);
        due.is("about(left, 0) behind 199", x.about(x.told(0), 0), 1);
        due.is("turns(1) behind 199", x.turns(1), 0);
        due.is("back(199)", x.back(199), 199);
        told("behind back(199)", x, 0, 40, 0, NONE, NONE);
        everyone("behind back(199)", x, 40, 5);
        due.is("turns(199)", x.turns(199), 199);
        due.is("back(200)", x.back(200), 199);
    }

    private static void noTurnWhenOneIsLeft() {
        CountedOut x = ringOf(3, 1);
        x.lives(2, 5);
        due.is("turns(2)", x.turns(2), 2);
        told("with one left", x, 2, 1, 2, 1, 1);
        due.is("turns(1) with one left", x.turns(1), 0);
        told("with one left still", x, 2, 1, 2, 1, 1);
        due.is("about(2, 0), the last keeps all LIVES", x.about(2, 0), 5);
        due.is("about(2, 1) of the last", x.about(2, 1), NONE);
    }

    // Promise 13: "n TURNS (1 .. 200) BACK"

    private static void backIsOneToTwoHundred() {
        CountedOut x = new CountedOut();
        for (int round = 0; round <= 1; round++) {
            for (int n : new int[] {0, -1, 201, Integer.MIN_VALUE, Integer.MAX_VALUE}) {
                due.is("back(" + n + ")", x.back(n), BAD);
            }
            due.is("told(2), nothing changed", x.told(2), 5 * round);
            x.turns(5);
        }
        due.is("back(1)", x.back(1), 1);
        due.is("told(2) behind back(1)", x.told(2), 8);
        due.is("back(200)", x.back(200), 8);
    }

    // Promise 13: "as many as there were: how many"

    private static void asManyTurnsBackAsThereWere() {
        CountedOut x = new CountedOut();
        due.is("back(1) of none", x.back(1), 0);
        due.is("back(200) of none", x.back(200), 0);
        told("behind back() of none", x, 0, 10, 0, NONE, NONE);
        x.turns(4);
        due.is("back(3) of 4", x.back(3), 3);
        due.is("back(2) of 1", x.back(2), 1);
        due.is("back(1) of none again", x.back(1), 0);
        x.turns(4);
        due.is("back(4) of 4", x.back(4), 4);
        x.turns(4);
        due.is("back(5) of 4", x.back(5), 4);
    }

    // "BACK: the latest TURN is as if it had not been (all are kept)"

    private static void backIsAsIfTheTurnHadNotBeen() {
        for (int turns = 1; turns <= 13; turns++) {
            CountedOut x = threeLivesEach();
            CountedOut before = threeLivesEach();
            if (turns > 1) {
                before.turns(turns - 1);
            }
            x.turns(turns);
            due.is("back(1) of " + turns, x.back(1), 1);
            alike("behind back(1) of " + turns, x, before);
            x.turns(1);
            before.turns(1);
            alike("with turn " + turns + " again", x, before);
            x.back(turns);
            alike("behind all turns back", x, threeLivesEach());
        }
    }

    private static CountedOut threeLivesEach() {
        CountedOut x = ringOf(5, 2);
        for (int p = 0; p < 5; p++) {
            x.lives(p, 3);
        }
        x.set(1, 2);
        x.words(2, 1, 4, 0, 0, true);
        return x;
    }

    private static void alike(String when, CountedOut x, CountedOut y) {
        for (int what = 0; what <= 4; what++) {
            due.is("told(" + what + ") " + when, x.told(what), y.told(what));
        }
        for (int p = 0; p < 5; p++) {
            due.is("about(" + p + ", 0) " + when, x.about(p, 0), y.about(p, 0));
            due.is("about(" + p + ", 1) " + when, x.about(p, 1), y.about(p, 1));
        }
    }

    // Promise 14: "0 LIVES left, 1 as which one they went out (from 1; NONE: they did not)"

    private static void aboutALifeLostAndAPersonOut() {
        CountedOut x = ringOf(2, 1);
        x.lives(0, 2);
        // 0 loses a life and stays, 1 goes as the first one.
        x.turns(1);
        due.is("about(0, 0), a life lost", x.about(0, 0), 1);
        due.is("about(0, 1), not out", x.about(0, 1), NONE);
        x.turns(1);
        due.is("about(1, 0), none left", x.about(1, 0), 0);
        due.is("about(1, 1), out", x.about(1, 1), 1);
        due.is("about(0, 1), the last", x.about(0, 1), NONE);
        CountedOut y = ringOf(40, 1);
        y.turns(200);
        for (int p = 0; p < 39; p++) {
            due.is("about(" + p + ", 1) of forty", y.about(p, 1), p + 1);
            due.is("about(" + p + ", 0) of forty", y.about(p, 0), 0);
        }
        due.is("about(39, 1) of forty", y.about(39, 1), NONE);
        y.back(1);
        due.is("about(38, 1), back again", y.about(38, 1), NONE);
        due.is("about(38, 0), back again", y.about(38, 0), 1);
        due.is("about(37, 1), out still", y.about(37, 1), 38);
    }

    private static void aboutIsOfZeroAndOne() {
        CountedOut x = new CountedOut();
        for (int what : new int[] {-1, 2, Integer.MIN_VALUE, Integer.MAX_VALUE}) {
            due.is("about(0, " + what + ")", x.about(0, what), BAD);
            due.is("about(9, " + what + ")", x.about(9, what), BAD);
            due.is("about(10, " + what + ")", x.about(10, what), BAD);
            due.is("about(-1, " + what + ")", x.about(-1, what), BAD);
        }
    }

    // Promise 15: "(what = 0) .. (4; NONE). BAD."

    private static void toldIsOfZeroToFour() {
        CountedOut x = new CountedOut();
        for (int round = 0; round <= 1; round++) {
            for (int what : new int[] {-1, 5, Integer.MIN_VALUE, Integer.MAX_VALUE}) {
                due.is("told(" + what + ")", x.told(what), BAD);
            }
            x.turns(1);
        }
    }

    private static void toldOfNoTurn() {
        CountedOut x = new CountedOut();
        told("at first", x, 0, 10, 0, NONE, NONE);
        x.turns(1);
        told("with a turn", x, 3, 9, 1, 2, 2);
        x.back(1);
        told("with none again", x, 0, 10, 0, NONE, NONE);
        x.turns(1);
        x.ring(10);
        told("anew", x, 0, 10, 0, NONE, NONE);
    }

    // Promise 15: "who lost a LIFE latest (3; NONE), who went out latest (4; NONE)"

    private static void toldOfALifeLostAndNoneOut() {
        CountedOut x = ringOf(3, 1);
        x.lives(0, 2);
        x.lives(2, 2);
        x.turns(1);
        told("0 lost a life", x, 1, 3, 1, 0, NONE);
        x.turns(1);
        told("1 went out", x, 2, 2, 2, 1, 1);
        x.turns(1);
        told("2 lost a life, 1 went out ahead of that", x, 0, 2, 3, 2, 1);
        x.turns(1);
        told("0 went out", x, 2, 1, 4, 0, 0);
        x.back(1);
        told("0 did not", x, 0, 2, 3, 2, 1);
        x.back(2);
        told("1 did not", x, 1, 3, 1, 0, NONE);
    }
}
