/** People in a ring, put out by counts till one is left: see README.md. */
public final class CountedOut {
    public static final int BAD = -1, STATE = -2, FULL = -3, NONE = -9;

    private static final long GREAT_MOST = 1000000000000L;
    private static final int GREAT_COUNT_MOST = 1000;
    // A person is passed over some k * ln(n) times at most, which is below 30000.
    private static final int PASSES_MOST = 1000000;

    private static final int HEAP_RING_LEAST = 2;
    private static final int HEAP_RING_MOST = 20;
    private static final int HEAP_COUNT_MOST = 10000;

    private static final int PEOPLE_MOST = 40;
    private static final int PEOPLE_AT_FIRST = 10;
    private static final int LIVES_MOST = 5;
    // The last one keeps a life, so no ring has more turns than lives.
    private static final int LOG_MOST = PEOPLE_MOST * LIVES_MOST;
    private static final int ASKED_TURNS_MOST = 200;

    private static final int FIXED = 0, WORDY = 1, TURNING = 2;
    private static final int STEP_MOST = 20;
    private static final int STEP_AT_FIRST = 3;
    private static final int TOLD_WORDS_MOST = 4;
    private static final int WORDS_MOST = 2 * TOLD_WORDS_MOST;
    private static final int WORD_MOST = 99;
    private static final int WORD_AT_FIRST = 3;
    private static final int TURN_MOST = 100000;
    // -1 is a count that a TURNING ring may well have.
    private static final int BAD_COUNT = -1000;

    private static final int CHOSEN_RING_MOST = 12;
    private static final int CHOSEN_COUNT_MOST = 6;
    private static final int CHOSEN_SET_MOST = (1 << CHOSEN_COUNT_MOST) - 1;

    private final Counts counts;
    private final Ring people;
    private long traced;

    public CountedOut() {
        counts = new Counts();
        people = new Ring();
        traced = 0;
    }

    // ---- great rings

    public long goes(long n, int k, long j) {
        if (!isGreatRing(n, k) || !isWithin(j, 1, n)) {
            return BAD;
        }
        return placeOfGoing(n, k, j);
    }

    public long turn(long n, int k, long place) {
        if (!isGreatRing(n, k) || !isWithin(place, 0, n - 1)) {
            return BAD;
        }
        return goingOfPlace(n, k, place);
    }

    public long last(long n, int k) {
        if (!isGreatRing(n, k)) {
            return BAD;
        }
        return placeOfGoing(n, k, n);
    }

    public int first(int n, int heap, int k) {
        if (!isHeap(n, heap) || !isWithin(k, 1, HEAP_COUNT_MOST)) {
            return BAD;
        }
        return goesFirst(n, heap, k) ? 1 : 0;
    }

    public int least(int n, int heap) {
        if (!isHeap(n, heap)) {
            return BAD;
        }
        for (int k = 1; k <= HEAP_COUNT_MOST; k++) {
            if (goesFirst(n, heap, k)) {
                return k;
            }
        }
        return NONE;
    }

    // ---- the ring

    public int ring(int n) {
        if (!isWithin(n, 1, PEOPLE_MOST)) {
            return BAD;
        }
        int before = people.size;
        people.begin(n);
        return before;
    }

    public int lives(int person, int v) {
        if (!people.has(person) || !isWithin(v, 1, LIVES_MOST)) {
            return BAD;
        }
        if (people.hasBegun()) {
            return STATE;
        }
        return people.giveLives(person, v);
    }

    public int set(int what, int v) {
        boolean isStep = what == 0 && isWithin(v, 1, STEP_MOST);
        boolean isKind = what == 1 && isWithin(v, FIXED, TURNING);
        if (!isStep && !isKind) {
            return BAD;
        }
        if (people.hasBegun()) {
            return STATE;
        }
        return isStep ? counts.changeStep(v) : counts.changeKind(v);
    }

    public int words(int n, int a, int b, int c, int d, boolean twice) {
        if (!isWithin(n, 1, TOLD_WORDS_MOST)) {
            return BAD;
        }
        if (!isWord(a) || n > 1 && !isWord(b) || n > 2 && !isWord(c) || n > 3 && !isWord(d)) {
            return BAD;
        }
        if (people.hasBegun()) {
            return STATE;
        }
        counts.takeWords(n, a, b, c, d);
        if (twice) {
            counts.mirrorWords();
        }
        return counts.wordCount;
    }

    public int count(int turn) {
        if (!isWithin(turn, 0, TURN_MOST)) {
            return BAD_COUNT;
        }
        traced += counts.toll();
        return counts.ofTurn(turn);
    }

    public int turns(int n) {
        if (!isWithin(n, 1, ASKED_TURNS_MOST)) {
            return BAD;
        }
        int done = 0;
        while (done < n && people.takeTurn(counts.ofTurn(people.done))) {
            done++;
        }
        return done;
    }

    public int back(int n) {
        if (!isWithin(n, 1, ASKED_TURNS_MOST)) {
            return BAD;
        }
        int undone = 0;
        while (undone < n && people.takeBack()) {
            undone++;
        }
        return undone;
    }

    public int about(int person, int what) {
        if (!people.has(person) || !isWithin(what, 0, 1)) {
            return BAD;
        }
        return what == 0 ? people.livesLeft[person] : people.wentAs[person];
    }

    public int told(int what) {
        switch (what) {
            case 0:
                return people.ahead;
            case 1:
                return people.left;
            case 2:
                return people.done;
            case 3:
                return people.latestCounted();
            case 4:
                return people.latestOut();
            default:
                return BAD;
        }
    }

    // ---- chosen counts

    public int may(int n, int set) {
        if (!isWithin(n, 1, CHOSEN_RING_MOST) || !isChosenSet(set)) {
            return BAD;
        }
        int staying = 1;
        for (int m = 2; m <= n; m++) {
            staying = stayingBySome(m, set, staying);
        }
        return staying;
    }

    public int can(int n, int own, int foe) {
        if (!isWithin(n, 1, CHOSEN_RING_MOST) || !isChosenSet(own) || !isChosenSet(foe)) {
            return BAD;
        }
        int staying = 1;
        for (int m = 2; m <= n; m++) {
            // One chooses first, in the whole ring, so each second ring below it is one's own.
            boolean ownTurn = (n - m) % 2 == 0;
            staying = ownTurn ? stayingBySome(m, own, staying) : stayingByAll(m, foe, staying);
        }
        return staying;
    }

    public long trace() {
        return traced;
    }

    // ---- what numbers may be

    private static boolean isWithin(long v, long least, long most) {
        return v >= least && v <= most;
    }

    private static boolean isGreatRing(long n, int k) {
        return isWithin(n, 1, GREAT_MOST) && isWithin(k, 1, GREAT_COUNT_MOST);
    }

    private static boolean isHeap(int n, int heap) {
        return isWithin(n, HEAP_RING_LEAST, HEAP_RING_MOST) && isWithin(heap, 1, (1 << n) - 2);
    }

    private static boolean isWord(int v) {
        return isWithin(v, 1, WORD_MOST);
    }

    private static boolean isChosenSet(int v) {
        return isWithin(v, 1, CHOSEN_SET_MOST);
    }

    // ---- great rings: people are numbered 1 .. n, and whoever is passed over gets the next
    // free number, so the j-th to go is the one who bears the number k * j. One step up or
    // down a person's numbers leaps over a whole pass through the ring.

    private static long placeOfGoing(long n, int k, long j) {
        if (k < 2) {
            return j - 1;
        }
        long number = k * j;
        for (int pass = 0; number > n && pass < PASSES_MOST; pass++) {
            number = (k * (number - n) - 1) / (k - 1);
        }
        return number - 1;
    }

    private static long goingOfPlace(long n, int k, long place) {
        if (k < 2) {
            return place + 1;
        }
        long number = place + 1;
        for (int pass = 0; number % k != 0 && pass < PASSES_MOST; pass++) {
            number = n + number - number / k;
        }
        return number / k;
    }

    // ---- heaps

    /** Whether those whom the count k puts out are of the heap, till none of it is left. */
    private static boolean goesFirst(int n, int heap, int k) {
        int heapLeft = heap;
        int at = 0;
        for (int m = n; m > 0 && heapLeft != 0; m--) {
            at = (at + k - 1) % m;
            if ((heapLeft >> at & 1) == 0) {
                return false;
            }
            heapLeft = withoutBit(heapLeft, at);
        }
        return true;
    }

    /** The bits with one taken out, those above it moved down into the gap. */
    private static int withoutBit(int bits, int at) {
        int below = (1 << at) - 1;
        return bits & below | bits >> 1 & ~below;
    }

    // ---- chosen counts: who stays in a ring of m follows from who stays in the ring of m - 1

    private static int stayingBySome(int m, int set, int stayingNext) {
        int staying = 0;
        for (int c = 1; c <= CHOSEN_COUNT_MOST; c++) {
            if (isChosen(set, c)) {
                staying |= stayingBehind(m, c, stayingNext);
            }
        }
        return staying;
    }

    private static int stayingByAll(int m, int set, int stayingNext) {
        int staying = (1 << m) - 1;
        for (int c = 1; c <= CHOSEN_COUNT_MOST; c++) {
            if (isChosen(set, c)) {
                staying &= stayingBehind(m, c, stayingNext);
            }
        }
        return staying;
    }

    private static boolean isChosen(int set, int c) {
        return (set >> (c - 1) & 1) == 1;
    }

    /** Who stays in a ring of m by the count c, if place 0 of the next ring is behind who goes. */
    private static int stayingBehind(int m, int c, int stayingNext) {
        if (m < 1) {
            return 0;
        }
        // The next ring has m - 1 places, so moving it round never brings one to who goes.
        int by = c % m;
        int moved = stayingNext << by;
        return (moved | moved >> m) & (1 << m) - 1;
    }

    /** The counts of turns: STEP, WORDS and the KIND that says which of them are heard. */
    private static final class Counts {
        // What count() adds to the trace for a kind and all that stand over it.
        private static final int[] TOLLS = {1, 11, 111};

        private final int[] wordRow;
        int wordCount;
        private int step;
        private int kind;

        Counts() {
            wordRow = new int[WORDS_MOST];
            wordRow[0] = WORD_AT_FIRST;
            wordCount = 1;
            step = STEP_AT_FIRST;
            kind = FIXED;
        }

        int changeStep(int v) {
            int before = step;
            step = v;
            return before;
        }

        int changeKind(int v) {
            int before = kind;
            kind = v;
            return before;
        }

        /** The first n of a, b, c, d; what stands in the row behind those is never read. */
        void takeWords(int n, int a, int b, int c, int d) {
            wordRow[0] = a;
            wordRow[1] = b;
            wordRow[2] = c;
            wordRow[3] = d;
            wordCount = n;
        }

        void mirrorWords() {
            for (int i = wordCount - 1; i >= 0 && wordCount < WORDS_MOST; i--) {
                wordRow[wordCount] = wordRow[i];
                wordCount++;
            }
        }

        int ofTurn(int t) {
            switch (kind) {
                case WORDY:
                    return wordy(t);
                case TURNING:
                    return turning(t);
                default:
                    return step;
            }
        }

        private int wordy(int t) {
            return step + wordOf(t);
        }

        private int turning(int t) {
            return t % 2 == 0 ? wordy(t) : -wordy(t);
        }

        private int wordOf(int t) {
            return t < 0 || wordCount < 1 ? 0 : wordRow[t % wordCount];
        }

        int toll() {
            return kind < 0 || kind >= TOLLS.length ? 0 : TOLLS[kind];
        }
    }

    /** The ring gone through turn by turn, and what its turns were, for going back. */
    private static final class Ring {
        final int[] livesLeft;
        final int[] wentAs;
        private final int[] loggedCounted;
        private final int[] loggedAhead;
        int size;
        int left;
        int ahead;
        int done;

        Ring() {
            livesLeft = new int[PEOPLE_MOST];
            wentAs = new int[PEOPLE_MOST];
            loggedCounted = new int[LOG_MOST];
            loggedAhead = new int[LOG_MOST];
            begin(PEOPLE_AT_FIRST);
        }

        void begin(int n) {
            size = Math.min(n, PEOPLE_MOST);
            left = size;
            ahead = 0;
            done = 0;
            for (int p = 0; p < size; p++) {
                livesLeft[p] = 1;
                wentAs[p] = NONE;
            }
        }

        boolean has(int person) {
            return person >= 0 && person < size;
        }

        boolean hasBegun() {
            return done > 0;
        }

        int giveLives(int person, int v) {
            int before = livesLeft[person];
            livesLeft[person] = v;
            return before;
        }

        /** Takes a turn with the count c, if there is one to take. */
        boolean takeTurn(int c) {
            if (left < 2 || done >= LOG_MOST) {
                return false;
            }
            int person = countedBy(c);
            loggedCounted[done] = person;
            loggedAhead[done] = ahead;
            done++;
            loseLife(person);
            ahead = nextLeft(person);
            return true;
        }

        private int countedBy(int c) {
            if (left < 1) {
                return ahead;
            }
            // Forward the one ahead is counted 1 already; backward one goes a step for each number.
            int steps = Math.floorMod(c > 0 ? c - 1 : c, left);
            int at = ahead;
            for (int i = 0; i < steps; i++) {
                at = nextLeft(at);
            }
            return at;
        }

        private void loseLife(int person) {
            livesLeft[person]--;
            if (livesLeft[person] == 0) {
                left--;
                wentAs[person] = size - left;
            }
        }

        /** The next one forward that is not out; the person again, if there is no other. */
        private int nextLeft(int person) {
            int at = person;
            for (int i = 0; i < size; i++) {
                at = at + 1 < size ? at + 1 : 0;
                if (livesLeft[at] > 0) {
                    return at;
                }
            }
            return person;
        }

        /** Makes the latest turn as if it had not been, if there was one. */
        boolean takeBack() {
            if (done < 1) {
                return false;
            }
            done--;
            int person = loggedCounted[done];
            if (livesLeft[person] == 0) {
                left++;
                wentAs[person] = NONE;
            }
            livesLeft[person]++;
            ahead = loggedAhead[done];
            return true;
        }

        int latestCounted() {
            return done < 1 ? NONE : loggedCounted[done - 1];
        }

        int latestOut() {
            for (int p = 0; p < size; p++) {
                if (wentAs[p] == size - left) {
                    return p;
                }
            }
            return NONE;
        }
    }
}
