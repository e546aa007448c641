/** What every test does with an answer: tells the wrong ones, and fails at the end if there was one. */
final class Due {
    private static final int TOLD_MOST = 50;
    private int wrong = 0;

    void is(String call, long got, long want) {
        if (got == want) {
            return;
        }
        wrong++;
        if (wrong <= TOLD_MOST) {
            System.out.println(call + " answered " + got + ", due is " + want);
        }
    }

    void holds(String what, boolean holds) {
        is(what, holds ? 1 : 0, 1);
    }

    void end() {
        if (wrong != 0) {
            System.out.println(wrong + " answers are not as due");
            System.exit(1);
        }
    }
}
