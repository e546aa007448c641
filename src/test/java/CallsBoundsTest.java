/** "An object is used for at most 512 calls after it has been made": the 512th answers as the first did. */
public final class CallsBoundsTest {
    private static final int CALLS = 512;
    private static final Due due = new Due();

    public static void main(String[] args) {
        manyCounts();
        manyTurnsAndBack();
        manyRings();
        manyQuestions();
        objectsKeepToThemselves();
        due.end();
    }

    private static void manyCounts() {
        CountedOut x = new CountedOut();
        x.set(1, 2);
        for (int call = 2; call < CALLS; call++) {
            due.is("count(0), call " + call, x.count(0), 6);
        }
        due.is("trace(), call " + CALLS, x.trace(), 510 * 111);
    }

    private static void manyTurnsAndBack() {
        CountedOut x = new CountedOut();
        for (int call = 1; call < CALLS; call += 2) {
            due.is("turns(200), call " + call, x.turns(200), 9);
            due.is("back(200), call " + (call + 1), x.back(200), 9);
        }
    }

    private static void manyRings() {
        CountedOut x = new CountedOut();
        int before = 10;
        for (int call = 1; call <= CALLS; call++) {
            int n = call % 40 + 1;
            due.is("ring(" + n + "), call " + call, x.ring(n), before);
            before = n;
        }
    }

    private static void manyQuestions() {
        CountedOut x = new CountedOut();
        for (int call = 1; call <= CALLS; call += 4) {
            due.is("last, call " + call, x.last(1000000000000L, 1000), 16858148461L);
            due.is("least, call " + (call + 1), x.least(14, 16256), 1872);
            due.is("may, call " + (call + 2), x.may(12, 63), 4095);
            due.is("can, call " + (call + 3), x.can(12, 63, 1), 4095);
        }
    }

    private static void objectsKeepToThemselves() {
        CountedOut x = new CountedOut();
        CountedOut y = new CountedOut();
        x.ring(5);
        x.set(0, 20);
        x.set(1, 2);
        x.words(4, 9, 8, 7, 6, true);
        x.count(0);
        x.turns(2);
        due.holds("another object is as new", Heard.of(y).equals(Heard.of(new CountedOut())));
        due.is("trace() of the one", x.trace(), 111);
        due.is("told(2) of the one", x.told(2), 2);
    }
}
