import java.util.ArrayList;
import java.util.List;

/** The ring of the document in another form: a row of those left, turned so that the one ahead is first. */
final class PlainRing {
    private record Then(List<Integer> left, List<Integer> lives, List<Integer> gone, int counted) { }

    private final List<Then> thens = new ArrayList<>();
    private List<Integer> row = List.of(3);
    private int people;
    private int step = 3;
    private int kind = 0;
    private long trace = 0;

    PlainRing() {
        begin(10);
    }

    private void begin(int n) {
        List<Integer> left = new ArrayList<>();
        List<Integer> lives = new ArrayList<>();
        for (int p = 0; p < n; p++) {
            left.add(p);
            lives.add(1);
        }
        people = n;
        thens.clear();
        thens.add(new Then(left, lives, List.of(), CountedOut.NONE));
    }

    private Then now() {
        return thens.get(thens.size() - 1);
    }

    private static boolean in(int v, int least, int most) {
        return least <= v && v <= most;
    }

    int ring(int n) {
        if (!in(n, 1, 40)) {
            return CountedOut.BAD;
        }
        int before = people;
        begin(n);
        return before;
    }

    int lives(int person, int v) {
        if (!in(person, 0, people - 1) || !in(v, 1, 5)) {
            return CountedOut.BAD;
        }
        return thens.size() > 1 ? CountedOut.STATE : now().lives().set(person, v);
    }

    int set(int what, int v) {
        if (!(what == 0 && in(v, 1, 20)) && !(what == 1 && in(v, 0, 2))) {
            return CountedOut.BAD;
        }
        if (thens.size() > 1) {
            return CountedOut.STATE;
        }
        int before = what == 0 ? step : kind;
        step = what == 0 ? v : step;
        kind = what == 1 ? v : kind;
        return before;
    }

    int words(int n, int[] told, boolean twice) {
        if (!in(n, 1, 4)) {
            return CountedOut.BAD;
        }
        List<Integer> next = new ArrayList<>();
        for (int i = 0; i < n; i++) {
            if (!in(told[i], 1, 99)) {
                return CountedOut.BAD;
            }
            next.add(told[i]);
        }
        if (thens.size() > 1) {
            return CountedOut.STATE;
        }
        for (int i = n - 1; i >= 0 && twice; i--) {
            next.add(told[i]);
        }
        row = next;
        return row.size();
    }

    private int countOf(int t) {
        int c = step + (kind > 0 ? row.get(t % row.size()) : 0);
        return kind == 2 && t % 2 == 1 ? -c : c;
    }

    int count(int t) {
        if (!in(t, 0, 100000)) {
            return -1000;
        }
        trace += new int[] {1, 11, 111}[kind];
        return countOf(t);
    }

    int turns(int n) {
        if (!in(n, 1, 200)) {
            return CountedOut.BAD;
        }
        int done = 0;
        for (; done < n && now().left().size() > 1; done++) {
            takeTurn();
        }
        return done;
    }

    /** Moves the row one by one: forward its first goes to the end, backward its end to the front. */
    private void takeTurn() {
        Then then = now();
        List<Integer> left = new ArrayList<>(then.left());
        List<Integer> lives = new ArrayList<>(then.lives());
        List<Integer> gone = new ArrayList<>(then.gone());
        int c = countOf(thens.size() - 1);
        for (int i = 1; i < c; i++) {
            left.add(left.remove(0));
        }
        for (int i = 0; i > c; i--) {
            left.add(0, left.remove(left.size() - 1));
        }
        int person = left.remove(0);
        lives.set(person, lives.get(person) - 1);
        if (lives.get(person) > 0) {
            left.add(person);
        } else {
            gone.add(person);
        }
        thens.add(new Then(left, lives, gone, person));
    }

    int back(int n) {
        if (!in(n, 1, 200)) {
            return CountedOut.BAD;
        }
        int undone = 0;
        for (; undone < n && thens.size() > 1; undone++) {
            thens.remove(thens.size() - 1);
        }
        return undone;
    }

    int about(int person, int what) {
        if (!in(person, 0, people - 1) || !in(what, 0, 1)) {
            return CountedOut.BAD;
        }
        int went = now().gone().indexOf(person);
        return what == 0 ? now().lives().get(person) : went < 0 ? CountedOut.NONE : went + 1;
    }

    int told(int what) {
        List<Integer> gone = now().gone();
        return switch (what) {
            case 0 -> now().left().get(0);
            case 1 -> now().left().size();
            case 2 -> thens.size() - 1;
            case 3 -> now().counted();
            case 4 -> gone.isEmpty() ? CountedOut.NONE : gone.get(gone.size() - 1);
            default -> CountedOut.BAD;
        };
    }

    long trace() {
        return trace;
    }
}
