/** Promises 16 and 17: may, can. Rings are gone through with every choice, people by name. */
public final class ChosenTest {
    private static final Due due = new Due();

    public static void main(String[] args) {
        mayOfSmallRings();
        mayOfTheGreatestRing();
        canOfSmallRings();
        canOfTheGreatestRing();
        wrongNumbers();
        due.end();
    }

    /** An object is promised for 512 calls alone, so that each question here is put to a new one. */
    private static CountedOut fresh() {
        return new CountedOut();
    }

    private static int[] whole(int n) {
        int[] people = new int[n];
        for (int p = 0; p < n; p++) {
            people[p] = p;
        }
        return people;
    }

    /** The people behind the one whom the count puts out, in order. */
    private static int[] without(int[] people, int count) {
        int[] next = new int[people.length - 1];
        for (int i = 0; i < next.length; i++) {
            next[i] = people[(count + i) % people.length];
        }
        return next;
    }

    private static int plainMay(int[] people, int set) {
        if (people.length == 1) {
            return 1 << people[0];
        }
        int bits = 0;
        for (int c = 1; c <= 6; c++) {
            if ((set >> (c - 1) & 1) == 1) {
                bits |= plainMay(without(people, c), set);
            }
        }
        return bits;
    }

    private static boolean stays(int one, int[] people, int mover, int other, boolean own) {
        if (people.length == 1) {
            return people[0] == one;
        }
        for (int c = 1; c <= 6; c++) {
            if ((mover >> (c - 1) & 1) == 1 && stays(one, without(people, c), other, mover, !own) == own) {
                return own;
            }
        }
        return !own;
    }

    private static int plainCan(int n, int own, int foe) {
        int bits = 0;
        for (int p = 0; p < n; p++) {
            bits |= stays(p, whole(n), own, foe, true) ? 1 << p : 0;
        }
        return bits;
    }

    private static void mayOfSmallRings() {
        for (int n = 1; n <= 6; n++) {
            for (int set = 1; set <= 63; set++) {
                due.is("may(" + n + ", " + set + ")", fresh().may(n, set), plainMay(whole(n), set));
            }
        }
    }

    private static void mayOfTheGreatestRing() {
        for (int n = 7; n <= 12; n++) {
            for (int set = 1; set <= 63; set++) {
                if (Integer.bitCount(set) <= 2) {
                    due.is("may(" + n + ", " + set + ")", fresh().may(n, set), plainMay(whole(n), set));
                }
            }
        }
    }

    private static void canOfSmallRings() {
        for (int n = 1; n <= 5; n++) {
            for (int own = 1; own <= 63; own++) {
                for (int foe = 1; foe <= 63; foe++) {
                    due.is("can(" + n + ", " + own + ", " + foe + ")", fresh().can(n, own, foe), plainCan(n, own, foe));
                }
            }
        }
    }

    private static void canOfTheGreatestRing() {
        int[] sets = {1, 2, 32, 3, 5, 33, 48, 18};
        for (int n = 6; n <= 12; n++) {
            for (int own : sets) {
                for (int foe : sets) {
                    due.is("can(" + n + ", " + own + ", " + foe + ")", fresh().can(n, own, foe), plainCan(n, own, foe));
                }
            }
        }
    }

    private static void wrongNumbers() {
        for (int n : new int[] {0, -1, 13, Integer.MIN_VALUE, Integer.MAX_VALUE}) {
            due.is("may(" + n + ", 1)", fresh().may(n, 1), CountedOut.BAD);
            due.is("can(" + n + ", 1, 1)", fresh().can(n, 1, 1), CountedOut.BAD);
        }
        for (int set : new int[] {0, -1, 64, Integer.MIN_VALUE, Integer.MAX_VALUE}) {
            due.is("may(5, " + set + ")", fresh().may(5, set), CountedOut.BAD);
            due.is("can(5, " + set + ", 1)", fresh().can(5, set, 1), CountedOut.BAD);
            due.is("can(5, 1, " + set + ")", fresh().can(5, 1, set), CountedOut.BAD);
        }
        due.is("may(1, 63)", fresh().may(1, 63), 1);
        due.is("can(1, 63, 63)", fresh().can(1, 63, 63), 1);
    }
}
