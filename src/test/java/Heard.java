import java.util.ArrayList;
import java.util.List;

/** All that an object can be heard to hold; two objects that hold the same are heard alike. */
final class Heard {
    private final List<Long> answers = new ArrayList<>();
    private final CountedOut x;

    private Heard(CountedOut x) {
        this.x = x;
    }

    /** Asks some 400 calls, TURNS and BACK among them: the object is not to be used behind that. */
    static List<Long> of(CountedOut x) {
        Heard heard = new Heard(x);
        heard.now();
        heard.counts();
        heard.add(x.turns(200));
        heard.now();
        heard.add(x.back(200));
        heard.now();
        heard.settings();
        return heard.answers;
    }

    private void add(long answer) {
        answers.add(answer);
    }

    private void now() {
        for (int what = 0; what <= 4; what++) {
            add(x.told(what));
        }
        for (int p = 0; p <= 40; p++) {
            add(x.about(p, 0));
            add(x.about(p, 1));
        }
    }

    private void counts() {
        add(x.trace());
        for (int t = 0; t <= 16; t++) {
            add(x.count(t));
        }
        add(x.trace());
    }

    private void settings() {
        add(x.set(0, 1));
        add(x.set(1, 1));
        for (int t = 0; t <= 8; t++) {
            add(x.count(t));
        }
        add(x.trace());
        add(x.ring(1));
    }
}
