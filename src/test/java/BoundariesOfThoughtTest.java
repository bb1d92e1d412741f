/** Boundary cases of promises 16 to 20: what would be. */
public final class BoundariesOfThoughtTest extends Boundaries {
    private static final int[] SEEDS = {0, 1, -1, 7, MIN, MIN + 1, MAX - 1, MAX, 511, 512, -512};

    public static void main(String[] args) {
        met();
        apartNumbers();
        apartAhead();
        apartHowMany();
        needsNumbers();
        needsFewest();
        needsWorth();
        drawnTimes();
        drawnSeeds();
        drawnAlike();
        chanceNumbers();
        chanceTerms();
        Sentence.end();
    }

    // ---- promise 16

    private static void met() {
        sentence(16, "WORTH in MET's STORE: of no DOTS").due(0, "met 0 0").due(0, "met 2 3");
        sentence(16, "BAD: a ROOM, as of longs").after("add 0 0 1 5", "add 0 2 1 5").each(1, "met _ 1", 0, 2)
            .each(LONG + BAD, "met _ 1", NO_ROOMS);
        sentence(16, "BAD: a NAME, as of longs").after("add 0 1 0 5", "add 0 1 3 5").each(1, "met 1 _", 0, 3)
            .each(LONG + BAD, "met 1 _", NO_NAMES);
        sentence(16, "all four STORES").after("kind 0 0 2", "add 0 0 0 1", "add 1 0 0 2", "add 2 0 0 4", "add 3 0 0 8")
            .due(15, "met 0 0");
        for (int who = 0; who < 4; who++) {
            sentence(16, "all four STORES: what " + who + " alone took away is gone").after("add 0 0 0 5")
                .after("send 0 1 0", "send 0 2 0", "send 0 3 0", "come 0", "come 0", "come 0").due(1, "met 0 0")
                .after("take " + who + " 0 0 5").due(0, "met 0 0");
            sentence(16, "all four STORES: what " + who + " alone has is there").after("add " + who + " 0 0 5").due(1, "met 0 0");
        }
        sentence(16, "STORES, not MESSAGES that wait").after("add 0 0 0 5", "send 0 1 0", "take 0 0 0 5").due(0, "met 0 0");
        String all = "all 124 DOTS";
        sentence(16, all).times(31, "add 0 0 0 MAX").times(31, "add 1 0 0 MAX").times(31, "add 2 0 0 MAX")
            .times(31, "add 3 0 0 MAX").due(124, "met 0 0").after("kind 0 0 2").due(266287972228L, "met 0 0").after("kind 0 0 5")
            .due(0x4F000000, "met 0 0").after("kind 0 0 4").due(MAX, "met 0 0");
    }

    // ---- promise 17

    private static void apartNumbers() {
        sentence(17, "BAD: one: REPLICAS 0 .. 3").each(BAD, "apart _ 1 0", NO_REPLICAS).due(1, "apart 0 1 0")
            .due(1, "apart 3 1 0");
        sentence(17, "BAD: another: REPLICAS 0 .. 3").each(BAD, "apart 1 _ 0", NO_REPLICAS).due(1, "apart 1 0 0")
            .due(1, "apart 1 3 0");
        sentence(17, "BAD: what 0 .. 3").after("add 0 0 0 5").each(BAD, "apart 0 1 _", -1, 4, MIN, MAX).due(1, "apart 0 1 0")
            .due(0, "apart 0 1 1").due(1, "apart 0 1 2").due(1, "apart 0 1 3");
        sentence(17, "of itself: JOINED with its own STORE it is as it was").after("add 2 0 0 5", "add 2 0 0 6", "take 2 0 0 5")
            .due(1, "apart 2 2 0").due(1, "apart 2 2 1").due(0, "apart 2 2 2").due(0, "apart 2 2 3");
    }

    private static void apartAhead() {
        sentence(17, "AHEAD, if its own is as it was: two of no DOTS").due(1, "apart 0 1 0").due(1, "apart 1 0 0")
            .due(1, "apart 0 1 1");
        sentence(17, "AHEAD: by one DOT HEARD more").after("add 0 0 0 5").due(1, "apart 0 1 0").due(0, "apart 1 0 0")
            .due(0, "apart 0 1 1").due(0, "apart 1 0 1");
        sentence(17, "AHEAD: by one DOT HEARD more, that isn't ALIVE").after("add 0 0 0 5", "take 0 0 0 5").due(1, "apart 0 1 0")
            .due(0, "apart 1 0 0").due(0, "apart 0 1 1").due(1, "apart 0 1 2").due(0, "apart 0 1 3");
        sentence(17, "AHEAD: by one DOT ALIVE less").after("add 0 0 0 5", "send 0 1 0", "come 0").due(1, "apart 0 1 1")
            .due(1, "apart 1 0 0").after("take 0 0 0 5").due(1, "apart 0 1 0").due(0, "apart 1 0 0").due(0, "apart 0 1 1")
            .due(0, "apart 0 1 2").due(1, "apart 0 1 3");
        sentence(17, "AHEAD: neither of them").after("add 0 0 0 5", "add 1 0 0 5").due(0, "apart 0 1 0").due(0, "apart 1 0 0")
            .due(0, "apart 0 1 1").due(2, "apart 0 1 2");
        sentence(17, "AHEAD: neither: one HEARD more, the other took away")
            .after("add 0 0 0 5", "send 0 1 0", "come 0", "take 1 0 0 5", "add 0 0 0 6").due(0, "apart 0 1 0")
            .due(0, "apart 1 0 0");
        sentence(17, "AHEAD: by the last DOT (30) alone").times(30, "add 3 0 0 5").after("send 3 2 0", "come 0")
            .due(1, "apart 2 3 0").after("add 3 0 0 5").due(0, "apart 2 3 0").due(1, "apart 3 2 0").due(1, "apart 2 3 2");
        sentence(17, "ALIKE, if both are AHEAD of each other")
            .after("add 0 0 0 5", "add 1 0 0 6", "take 1 0 0 6", "send 0 1 1", "send 1 0 1", "come 0").due(0, "apart 0 1 1")
            .due(1, "apart 1 0 0").after("come 0").due(1, "apart 0 1 1").due(1, "apart 1 0 1");
    }

    private static void apartHowMany() {
        sentence(17, "HEARD, ALIVE by one or the other alone: none").due(0, "apart 0 1 2").due(0, "apart 0 1 3");
        sentence(17, "by one or the other alone: from both sides the same")
            .after("add 0 0 0 5", "add 0 0 0 5", "add 1 0 0 5", "take 0 0 0 5").due(3, "apart 0 1 2").due(3, "apart 1 0 2")
            .due(1, "apart 0 1 3").due(1, "apart 1 0 3");
        sentence(17, "by one or the other alone: not by both").after("add 0 0 0 5", "send 0 1 0", "come 0", "add 1 0 0 6")
            .due(1, "apart 0 1 2").due(1, "apart 0 1 3");
        sentence(17, "by one or the other alone: not what others alone have").after("add 2 0 0 5", "add 3 0 0 5")
            .due(0, "apart 0 1 2").due(0, "apart 0 1 3").due(2, "apart 2 3 2");
        sentence(17, "by one or the other alone: all 124").times(31, "add 0 0 0 5").times(31, "add 1 0 0 5")
            .times(31, "add 2 0 0 5").times(31, "add 3 0 0 5").due(62, "apart 0 3 2").after("send 0 1 0", "send 2 3 0")
            .after("come 0", "come 0").due(124, "apart 1 3 2").due(124, "apart 3 1 3").after("reset 3 0").due(124, "apart 1 3 2")
            .due(62, "apart 1 3 3").after("reset 1 0").due(0, "apart 1 3 3");
    }

    // ---- promise 18

    private static void needsNumbers() {
        sentence(18, "BAD: a REPLICA").each(BAD, "needs _ 0 0 0 0", NO_REPLICAS).due(0, "needs 0 0 0 0 0")
            .due(0, "needs 3 0 0 0 0");
        sentence(18, "BAD: a ROOM").each(BAD, "needs 0 _ 0 0 0", NO_ROOMS).due(0, "needs 0 0 0 0 0").due(0, "needs 0 2 0 0 0");
        sentence(18, "BAD: a NAME").each(BAD, "needs 0 0 _ 0 0", NO_NAMES).due(0, "needs 0 0 0 0 0").due(0, "needs 0 0 3 0 0");
        sentence(18, "BAD: what 0, 1").after("add 1 0 0 5", "send 1 0 0", "send 1 0 0")
            .each(BAD, "needs 0 0 0 1 _", -1, 2, MIN, MAX).due(1, "needs 0 0 0 1 0").due(1, "needs 0 0 0 1 1");
        sentence(18, "BAD, also where no set would do").due(BAD, "needs 0 0 0 9 2").due(BAD, "needs 4 0 0 9 0")
            .due(NONE, "needs 0 0 0 9 0");
    }

    /** Six messages wait for replica 0, each of one new dot of replica 1. */
    private static Sentence six(String words, int... values) {
        Sentence six = sentence(18, words).after("kind 0 0 2");
        for (int value : values) {
            six.after("add 1 0 0 " + value, "send 1 0 1");
        }
        return six;
    }

    private static void needsFewest() {
        sentence(18, "by no MESSAGE at all: it is w already").after("add 0 0 0 5", "send 1 0 0").due(0, "needs 0 0 0 1 0")
            .due(0, "needs 0 0 0 1 1");
        sentence(18, "NONE: by no set: none wait").due(NONE, "needs 0 0 0 1 0").due(NONE, "needs 0 0 0 1 1");
        six("NONE: by no set of all six", 1, 2, 4, 8, 16, 32).due(NONE, "needs 0 0 0 64 0").due(NONE, "needs 0 0 0 64 1")
            .due(NONE, "needs 0 0 0 -1 0").due(NONE, "needs 0 0 0 -1 1");
        six("how many, which: all six", 1, 2, 4, 8, 16, 32).due(6, "needs 0 0 0 63 0").due(63, "needs 0 0 0 63 1")
            .due(5, "needs 0 0 0 62 0").due(62, "needs 0 0 0 62 1").due(5, "needs 0 0 0 31 0").due(31, "needs 0 0 0 31 1")
            .due(1, "needs 0 0 0 32 0").due(32, "needs 0 0 0 32 1").due(1, "needs 0 0 0 1 1").due(0, "needs 0 0 0 0 1");
        six("of like ones the least as bits: one of six", 7, 7, 7, 7, 7, 7).due(1, "needs 0 0 0 7 1").due(3, "needs 0 0 0 14 1")
            .due(31, "needs 0 0 0 35 1").due(5, "needs 0 0 0 35 0");
        six("of like ones the least as bits, not the one of the first MESSAGE", 1, 2, 3, 4).due(0b0110, "needs 0 0 0 5 1")
            .due(2, "needs 0 0 0 5 0");
        six("one of fewest, though its bits are more", 1, 2, 3, 6).due(0b1000, "needs 0 0 0 6 1").due(1, "needs 0 0 0 6 0")
            .due(0b0100, "needs 0 0 0 3 1");
        six("one of fewest: two ahead of three", 1, 2, 3, 4, 50, 60).due(0b1010, "needs 0 0 0 6 1").due(2, "needs 0 0 0 6 0");
        sentence(18, "MESSAGES to it: of others none").after("add 1 0 0 5", "send 1 2 0", "send 1 3 0", "send 0 1 0")
            .due(NONE, "needs 0 0 0 1 0").due(NONE, "needs 0 0 0 1 1").due(1, "needs 2 0 0 1 1").due(2, "needs 3 0 0 1 1")
            .after("send 1 0 0").due(8, "needs 0 0 0 1 1").due(1, "needs 0 0 0 1 0");
        sentence(18, "bits: as they wait now").after("add 1 0 0 5", "send 1 2 0", "send 1 0 0").due(2, "needs 0 0 0 1 1")
            .after("lose 0").due(1, "needs 0 0 0 1 1").after("come 0").due(0, "needs 0 0 0 1 1");
        sentence(18, "by whose coming, all, whatever their order")
            .after("add 1 0 0 5", "send 1 0 1", "take 1 0 0 5", "send 1 0 1", "add 1 0 0 6").due(1, "needs 0 0 0 1 0")
            .due(1, "needs 0 0 0 1 1").due(0, "needs 0 0 0 0 1").after("come 0").due(1, "needs 0 0 0 0 1")
            .due(1, "needs 0 0 0 0 0");
    }

    private static void needsWorth() {
        six("for a long w: beyond ints", MAX, MAX).due(0b11, "needs 0 0 0 4294967294 1").due(NONE, "needs 0 0 0 -2 1")
            .due(1, "needs 0 0 0 2147483647 1");
        six("for a long w: its lowest 32 bits alone are not enough", 5).due(1, "needs 0 0 0 5 1")
            .due(NONE, "needs 0 0 0 4294967301 1").due(NONE, "needs 0 0 0 -4294967291 1");
        six("for a long w: at the ends of longs", 5).due(NONE, "needs 0 0 0 9223372036854775807 0")
            .due(NONE, "needs 0 0 0 -9223372036854775808 0").due(NONE, "needs 0 0 0 " + (LONG + BAD) + " 0");
        six("for a long w: MEAN below 0", -4).after("kind 0 0 5").due(1, "needs 0 0 0 " + bits(-4f) + " 1")
            .due(NONE, "needs 0 0 0 " + (bits(-4f) & 0xffffffffL) + " 1");
        six("of an OBJECT: not of another", 5).due(NONE, "needs 0 0 1 5 1").due(NONE, "needs 0 1 0 5 1")
            .due(0, "needs 0 0 1 0 1");
    }

    // ---- promises 19 and 20

    /** How many know of a dot after n drawings that replica 0 alone had; reckoned by longs. */
    private static int know(int seed, int n) {
        boolean[] knows = {true, false, false, false};
        long z = seed;
        for (int i = 0; i < n; i++) {
            z = z * 1103515245L + 12345L & 0xffffffffL;
            int from = (int) ((z >> 9) % 4);
            z = z * 1103515245L + 12345L & 0xffffffffL;
            int to = (int) ((z >> 9) % 4);
            knows[to] |= knows[from];
        }
        int many = 0;
        for (boolean one : knows) {
            many += one ? 1 : 0;
        }
        return many;
    }

    /** The first seed from the given one on by which one drawing more matters. */
    private static int seedOfLast(int first, int n) {
        int seed = first;
        while (know(seed, n) == know(seed, n - 1)) {
            seed++;
        }
        return seed;
    }

    private static void drawnTimes() {
        int seed = seedOfLast(1, 20);
        sentence(19, "n times (0 .. 20): 20 is taken, and is more than 19").after("add 0 0 0 5")
            .due(know(seed, 20), "drawn " + seed + " 20").due(know(seed, 20) - 1, "drawn " + seed + " 19")
            .due(BAD, "drawn " + seed + " 21").due(BAD, "drawn " + seed + " 22").due(BAD, "drawn " + seed + " MAX");
        sentence(19, "n times (0 .. 20): 0 is taken").after("add 0 0 0 5").due(1, "drawn 7 0").due(BAD, "drawn 7 -1")
            .due(BAD, "drawn 7 MIN");
        int once = seedOfLast(1, 1);
        sentence(19, "once is more than not at all").after("add 0 0 0 5").due(2, "drawn " + once + " 1")
            .due(1, "drawn " + once + " 0");
        for (int n = 0; n <= 20; n++) {
            sentence(19, "n times: " + n).after("add 0 0 0 5").due(know(seed, n), "drawn " + seed + " " + n);
        }
    }

    private static void drawnSeeds() {
        for (int seed : SEEDS) {
            Sentence one = sentence(19, "DRAWN by a SEED, an int that goes round: " + seed).after("add 0 0 0 5");
            for (int n = 1; n <= 20; n++) {
                one.due(know(seed, n), "drawn " + seed + " " + n);
            }
        }
    }

    private static void drawnAlike() {
        sentence(19, "how many are ALIKE MET's STORE: all of no DOTS").each(4, "drawn 7 _", 0, 1, 20);
        sentence(19, "how many are ALIKE MET's STORE: none").after("add 0 0 0 5", "add 1 0 0 5").due(0, "drawn 7 0")
            .due(0, "count 2");
        sentence(19, "how many are ALIKE: HEARD is not enough").after("add 0 0 0 5", "send 0 1 0", "come 0").due(2, "drawn 7 0")
            .after("take 0 0 0 5").due(1, "drawn 7 0");
        sentence(19, "in thought: of the STORES as they are").after("add 0 0 0 5").due(4, "drawn " + seedOfAll() + " 20")
            .each(0, "told _ 0 0", 1, 2, 3).due(1, "count 2").due(0, "told 1 0 10");
        int again = 1;
        while (sender(again) != receiver(again)) {
            again++;
        }
        sentence(19, "to, that may be from itself").after("add 0 0 0 5", "add 1 0 0 6").due(0, "drawn " + again + " 1");
        for (int from = 0; from < 4; from++) {
            for (int to = 0; to < 4; to++) {
                int seed = 1;
                while (sender(seed) != from || receiver(seed) != to) {
                    seed++;
                }
                sentence(19, "from " + from + ", then to " + to + ", whole")
                    .after("add " + from + " 0 0 5", "send " + from + " " + (from + 1) % 4 + " 1", "lose 0")
                    .due(from == to ? 1 : 2, "drawn " + seed + " 1");
            }
        }
    }

    private static int seedOfAll() {
        int seed = 1;
        while (know(seed, 20) != 4) {
            seed++;
        }
        return seed;
    }

    private static int sender(int seed) {
        return (int) ((seed * 1103515245L + 12345L & 0xffffffffL) / 512 % 4);
    }

    private static int receiver(int seed) {
        return (int) (((seed * 1103515245L + 12345L) * 1103515245L + 12345L & 0xffffffffL) / 512 % 4);
    }

    private static int good(int seed, int m) {
        int good = 0;
        for (int i = 0; i < m; i++) {
            good += know(seed + i, 8) == 4 ? 1 : 0;
        }
        return good;
    }

    private static void chanceNumbers() {
        sentence(20, "BAD: m seeds (1 .. 8)").after("add 0 0 0 5").each(BAD, "chance 7 _ 0", 0, -1, 9, MIN, MAX)
            .each(BAD, "chance 7 _ 1", 0, -1, 9, MIN, MAX);
        sentence(20, "BAD: part 0, 1").after("add 0 0 0 5").each(BAD, "chance 7 8 _", -1, 2, MIN, MAX);
        int one = 0;
        while (know(one, 8) != 4 || know(one + 1, 8) == 4) {
            one++;
        }
        sentence(20, "m seeds: 1").after("add 0 0 0 5").due(1, "chance " + one + " 1 0").due(1, "chance " + one + " 1 1")
            .due(1, "chance " + one + " 2 0").due(2, "chance " + one + " 2 1");
        int last = 0;
        while (know(last + 7, 8) != 4 || good(last, 7) != 2) {
            last++;
        }
        sentence(20, "m seeds: 8: the last counts").after("add 0 0 0 5").due(2, "chance " + last + " 7 0")
            .due(7, "chance " + last + " 7 1").due(3, "chance " + last + " 8 0").due(8, "chance " + last + " 8 1");
        for (int seed = MAX - 7; seed < MAX; seed++) {
            Sentence round = sentence(20, "each 1 more (an int): behind the greatest comes the least, from " + seed)
                .after("add 0 0 0 5");
            for (int m = 1; m <= 8; m++) {
                int above = good(seed, m);
                round.due(above == 0 ? 0 : above / common(above, m), "chance " + seed + " " + m + " 0")
                    .due(m / common(above, m), "chance " + seed + " " + m + " 1");
            }
        }
        int eighth = seedOfEighth(1);
        sentence(20, "8 times: one less would not do").after("add 0 0 0 5").due(1, "chance " + eighth + " 1 0")
            .due(3, "drawn " + eighth + " 7");
        int ninth = seedOfNinth(1);
        sentence(20, "8 times: one more would do").after("add 0 0 0 5").due(0, "chance " + ninth + " 1 0")
            .due(4, "drawn " + ninth + " 9");
    }

    private static int seedOfEighth(int first) {
        int seed = first;
        while (know(seed, 8) != 4 || know(seed, 7) == 4) {
            seed++;
        }
        return seed;
    }

    private static int seedOfNinth(int first) {
        int seed = first;
        while (know(seed, 9) != 4 || know(seed, 8) == 4) {
            seed++;
        }
        return seed;
    }

    private static int common(int good, int m) {
        int a = m;
        int b = good;
        while (b != 0) {
            int rest = a % b;
            a = b;
            b = rest;
        }
        return a;
    }

    private static void chanceTerms() {
        for (int m = 1; m <= 8; m++) {
            sentence(20, "in lowest terms: all of " + m).due(1, "chance 7 " + m + " 0").due(1, "chance 7 " + m + " 1");
        }
        for (int m = 1; m <= 8; m++) {
            for (int above = 0; above <= m; above++) {
                int seed = seedOf(above, m);
                if (good(seed, m) == above) {
                    sentence(20, "in lowest terms: " + above + " of " + m).after("add 0 0 0 5")
                        .due(above / common(above, m), "chance " + seed + " " + m + " 0")
                        .due(m / common(above, m), "chance " + seed + " " + m + " 1");
                }
            }
        }
        sentence(20, "by which all four are: three are not enough").after("add 0 0 0 5").due(3, "drawn " + seedOfThree() + " 8")
            .due(0, "chance " + seedOfThree() + " 1 0").due(1, "chance " + seedOfThree() + " 1 1");
    }

    private static int seedOf(int above, int m) {
        int seed = 1;
        for (int i = 0; i < 200000 && good(seed, m) != above; i++) {
            seed++;
        }
        return seed;
    }

    private static int seedOfThree() {
        int seed = 1;
        while (know(seed, 8) != 3) {
            seed++;
        }
        return seed;
    }
}
