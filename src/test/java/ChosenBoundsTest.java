/** The edges of promises 16 and 17, a method for each sentence that names one. */
public final class ChosenBoundsTest {
    private static final int BAD = CountedOut.BAD;
    private static final int ALL_COUNTS = 63;
    private static final int[] WRONG_RINGS = {0, -1, -12, 13, 32, 33, Integer.MIN_VALUE, Integer.MAX_VALUE};
    private static final int[] WRONG_SETS = {0, -1, -64, 64, 65, 127, 128, Integer.MIN_VALUE, Integer.MAX_VALUE};
    private static final Due due = new Due();

    public static void main(String[] args) {
        aRingOfOne();
        aRingOfTwo();
        theGreatestRing();
        noRingBelowOneOrAboveTwelve();
        setsAreOneToSixtyThree();
        bitOneBelowIsForACount();
        oneCountLeavesNoChoice();
        countsGoRound();
        mayIsBySomeChoices();
        canIsWhateverTheFoeChooses();
        oneChoosesFirst();
        setsOfTheirOwn();
        theFoeOfTwoHasNoTurn();
        severalWrongNumbers();
        due.end();
    }

    private static void may(int n, int set, int want) {
        due.is("may(" + n + ", " + set + ")", new CountedOut().may(n, set), want);
    }

    private static void can(int n, int own, int foe, int want) {
        due.is("can(" + n + ", " + own + ", " + foe + ")", new CountedOut().can(n, own, foe), want);
    }

    /** The place that stays if each count is the same. */
    private static int lastBit(int n, int count) {
        int last = 0;
        for (int m = 2; m <= n; m++) {
            last = (last + count) % m;
        }
        return 1 << last;
    }

    // "a ring of n (1 .. 12)"

    private static void aRingOfOne() {
        for (int set = 1; set <= ALL_COUNTS; set++) {
            may(1, set, 1);
            can(1, set, ALL_COUNTS, 1);
            can(1, ALL_COUNTS, set, 1);
        }
    }

    private static void aRingOfTwo() {
        int odd = 0b010101;
        for (int set = 1; set <= ALL_COUNTS; set++) {
            // An odd count puts out 0, so that 1 stays; an even one puts out 1.
            int staying = ((set & odd) != 0 ? 2 : 0) | ((set & ~odd) != 0 ? 1 : 0);
            may(2, set, staying);
        }
    }

    private static void theGreatestRing() {
        may(12, ALL_COUNTS, 4095);
        may(12, 1, 1 << 11);
        may(12, 32, 4);
        can(12, ALL_COUNTS, 1, 4095);
        can(12, 1, ALL_COUNTS, 0);
        can(12, 1, 1, 1 << 11);
    }

    private static void noRingBelowOneOrAboveTwelve() {
        for (int n : WRONG_RINGS) {
            for (int set : new int[] {1, 32, ALL_COUNTS}) {
                may(n, set, BAD);
                can(n, set, 1, BAD);
                can(n, 1, set, BAD);
            }
        }
    }

    // "a SET (bits 1 .. 6 ..)", "BAD: SET 1 .. 63"

    private static void setsAreOneToSixtyThree() {
        for (int n : new int[] {1, 2, 5, 12}) {
            for (int set : WRONG_SETS) {
                may(n, set, BAD);
                can(n, set, 1, BAD);
                can(n, set, ALL_COUNTS, BAD);
                can(n, 1, set, BAD);
                can(n, ALL_COUNTS, set, BAD);
                can(n, set, set, BAD);
            }
        }
    }

    // "bit c - 1 for count c"

    private static void bitOneBelowIsForACount() {
        // With one count alone, who stays tells which count the bit was for.
        for (int n = 1; n <= 12; n++) {
            for (int c = 1; c <= 6; c++) {
                may(n, 1 << (c - 1), lastBit(n, c));
            }
        }
        may(3, 1, 4);
        may(3, 2, 4);
        may(3, 4, 2);
    }

    private static void oneCountLeavesNoChoice() {
        for (int n = 1; n <= 12; n++) {
            for (int c = 1; c <= 6; c++) {
                can(n, 1 << (c - 1), 1 << (c - 1), lastBit(n, c));
            }
        }
    }

    private static void countsGoRound() {
        // By 6 of two, of three, of four: 1 goes; 2 goes; 1 goes.
        may(2, 32, 1);
        may(3, 32, 1);
        may(4, 32, 1 << 2);
        can(2, 32, 1, 1);
        can(4, 32, 32, 1 << 2);
    }

    // "MAY: PLACES that are THE LAST by some choices (bits)"

    private static void mayIsBySomeChoices() {
        // Of three 2 stays by 1 and 1 and by 2 and 2, 1 by 1 and 2, 0 by 2 and 1.
        may(3, 3, 0b111);
        may(2, 0b10101, 0b10);
        may(2, 0b101010, 0b01);
        for (int set = 1; set <= ALL_COUNTS; set++) {
            int some = new CountedOut().may(12, set);
            due.holds("may(12, " + set + ") names a place", some > 0 && some < 1 << 12);
        }
    }

    // "CAN: .. PLACES from which one stays, whatever the foe chooses"

    private static void canIsWhateverTheFoeChooses() {
        // One puts out a place of three, then the foe chooses who of the two others stays.
        can(3, ALL_COUNTS, ALL_COUNTS, 0);
        can(3, 1, 3, 0);
        // By odd counts alone the foe puts out the next one: with 0 out 2 stays, with 1 out 0, with 2 out 1.
        can(3, ALL_COUNTS, 0b10101, 0b111);
        can(3, 0b1001, 0b10101, 0b100);
    }

    // "one and a foe choose by turns, one first"

    private static void oneChoosesFirst() {
        // Of two the one who chooses first stays at either place.
        can(2, 3, 1, 3);
        can(2, 1, 3, 2);
        // Of three one chooses first by 1, the foe by 2: 0 goes, then 2.
        can(3, 1, 2, 1 << 1);
        // One by 2, the foe by 1: 1 goes, then 2.
        can(3, 2, 1, 1 << 0);
        // Of four one has the first and the last choice: by 1, 2, 1 there go 0, 2 and 3.
        can(4, 1, 2, 1 << 1);
        can(4, 2, 1, 1 << 3);
    }

    // "from SETS of their own"

    private static void setsOfTheirOwn() {
        can(3, 3, 1, 5);
        can(3, 1, 1, 4);
        can(3, 2, 2, 4);
        can(12, 63, 1, 4095);
        can(12, 1, 63, 0);
    }

    private static void theFoeOfTwoHasNoTurn() {
        for (int foe = 1; foe <= ALL_COUNTS; foe++) {
            can(2, 1, foe, 2);
            can(2, 2, foe, 1);
            can(2, ALL_COUNTS, foe, 3);
        }
    }

    private static void severalWrongNumbers() {
        may(0, 0, BAD);
        may(13, 64, BAD);
        may(Integer.MAX_VALUE, Integer.MAX_VALUE, BAD);
        may(Integer.MIN_VALUE, Integer.MIN_VALUE, BAD);
        can(0, 0, 0, BAD);
        can(13, 64, 64, BAD);
        can(Integer.MAX_VALUE, Integer.MAX_VALUE, Integer.MAX_VALUE, BAD);
        can(Integer.MIN_VALUE, Integer.MIN_VALUE, Integer.MIN_VALUE, BAD);
    }
}
