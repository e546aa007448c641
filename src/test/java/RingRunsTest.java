import java.util.Random;

/** Promises 1, 7 to 15 and 18: runs of calls, right and wrong ones, beside a plain ring. */
public final class RingRunsTest {
    private static final int RUNS = 1500;
    // Two calls a step and 80 at the end stay below the 512 that an object is promised for.
    private static final int STEPS = 215;
    private static final int[] FAR = {Integer.MIN_VALUE, -1000, -1, 100, 1000, Integer.MAX_VALUE};
    private static final Due due = new Due();
    private static final Random random = new Random(20261116);

    public static void main(String[] args) {
        for (int run = 0; run < RUNS; run++) {
            CountedOut x = new CountedOut();
            PlainRing plain = new PlainRing();
            for (int i = 0; i < STEPS; i++) {
                String where = "run " + run + ", step " + i + ": ";
                call(where, x, plain);
                what(where + "behind it ", x, plain, random.nextInt(5));
            }
            everyone("run " + run + ": ", x, plain);
        }
        due.end();
    }

    /** Mostly least - 1 .. most + 1, now and then far off. */
    private static int about(int least, int most) {
        return random.nextInt(25) == 0 ? FAR[random.nextInt(FAR.length)] : least - 1 + random.nextInt(most - least + 3);
    }

    private static void call(String where, CountedOut x, PlainRing plain) {
        switch (random.nextInt(14)) {
            case 0 -> ring(where, x, plain);
            case 1, 2 -> lives(where, x, plain);
            case 3, 4 -> set(where, x, plain);
            case 5 -> words(where, x, plain);
            case 6 -> count(where, x, plain);
            case 7, 8 -> turns(where, x, plain);
            case 9, 10 -> back(where, x, plain);
            case 11 -> aboutOne(where, x, plain);
            case 12 -> told(where, x, plain);
            default -> due.is(where + "trace()", x.trace(), plain.trace());
        }
    }

    private static void ring(String where, CountedOut x, PlainRing plain) {
        int n = about(1, 40);
        if (random.nextInt(3) == 0) {
            due.is(where + "ring(" + n + ")", x.ring(n), plain.ring(n));
        }
    }

    private static void lives(String where, CountedOut x, PlainRing plain) {
        int person = about(0, 39);
        int v = about(1, 5);
        due.is(where + "lives(" + person + ", " + v + ")", x.lives(person, v), plain.lives(person, v));
    }

    private static void set(String where, CountedOut x, PlainRing plain) {
        int what = about(0, 1);
        int v = what == 0 ? about(1, 20) : about(0, 2);
        due.is(where + "set(" + what + ", " + v + ")", x.set(what, v), plain.set(what, v));
    }

    private static void words(String where, CountedOut x, PlainRing plain) {
        int n = about(1, 4);
        int[] w = {about(1, 99), about(1, 99), about(1, 99), about(1, 99)};
        boolean twice = random.nextBoolean();
        due.is(where + "words(" + n + ", ..)", x.words(n, w[0], w[1], w[2], w[3], twice), plain.words(n, w, twice));
    }

    private static void count(String where, CountedOut x, PlainRing plain) {
        int t = random.nextInt(4) == 0 ? about(99998, 100000) : about(0, 20);
        due.is(where + "count(" + t + ")", x.count(t), plain.count(t));
    }

    private static int someTurns() {
        return random.nextInt(5) == 0 ? about(1, 200) : about(1, 6);
    }

    private static void turns(String where, CountedOut x, PlainRing plain) {
        int n = someTurns();
        due.is(where + "turns(" + n + ")", x.turns(n), plain.turns(n));
    }

    private static void back(String where, CountedOut x, PlainRing plain) {
        int n = someTurns();
        due.is(where + "back(" + n + ")", x.back(n), plain.back(n));
    }

    private static void aboutOne(String where, CountedOut x, PlainRing plain) {
        int person = about(0, 39);
        int what = about(0, 1);
        due.is(where + "about(" + person + ", " + what + ")", x.about(person, what), plain.about(person, what));
    }

    private static void everyone(String where, CountedOut x, PlainRing plain) {
        for (int p = 0; p < 40; p++) {
            due.is(where + "about(" + p + ", 0)", x.about(p, 0), plain.about(p, 0));
            due.is(where + "about(" + p + ", 1)", x.about(p, 1), plain.about(p, 1));
        }
    }

    private static void told(String where, CountedOut x, PlainRing plain) {
        what(where, x, plain, about(0, 4));
    }

    private static void what(String where, CountedOut x, PlainRing plain, int what) {
        due.is(where + "told(" + what + ")", x.told(what), plain.told(what));
    }
}
