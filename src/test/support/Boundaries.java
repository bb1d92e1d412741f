/** What the tests of the document's boundary cases share. */
abstract class Boundaries {
    static final int NONE = -1, BAD = -2, STATE = -3, FULL = -4;
    static final int MISSING = -11, OUTSIDE = -12, UNLIKE = -13, BELOW = -14;
    static final long LONG = -1000000000000L;
    static final int MIN = Integer.MIN_VALUE, MAX = Integer.MAX_VALUE;
    /** All of a replica's dots as bits. */
    static final int ALL_31 = 0b1111111111111111111111111111111;

    static final int[] NO_REPLICAS = {-1, 4, MIN, MAX};
    static final int[] NO_ROOMS = {-1, 3, MIN, MAX};
    static final int[] NO_NAMES = {-1, 4, MIN, MAX};
    static final int[] NO_KINDS = {-1, 6, MIN, MAX};
    static final int[] NO_SHEETS = {-1, 4, MIN, MAX};

    static Sentence sentence(int promise, String words) {
        return new Sentence(promise, words);
    }

    static int bits(float f) {
        return Float.floatToRawIntBits(f);
    }
}
