/** Boundary cases of the document's Terms and of promises 1 to 10: a new object, and what is done and asked at a replica. */
public final class BoundariesAtReplicasTest extends Boundaries {
    private static final int BAG = 0, SET = 1, COUNT = 2, LATEST = 3, MOST = 4, MEAN = 5;

    public static void main(String[] args) {
        aNewObject();
        addNumbers();
        addFull();
        addStamps();
        addGone();
        addNews();
        take();
        reset();
        kind();
        taken();
        worthOfNone();
        worthOfKinds();
        worthOfMean();
        worthFull();
        toldHeardAndAlive();
        toldStableAndTags();
        toldStableEverywhere();
        toldKnown();
        dot();
        has();
        Sentence.end();
    }

    private static Sentence of(int kind, int promise, String words) {
        return sentence(promise, words + ", of KIND " + kind).after("kind 0 0 " + kind);
    }

    // ---- promise 1

    private static void aNewObject() {
        Sentence none = sentence(1, "No DOTS").due(0, "count 0").due(0, "count 3").due(0, "count 4");
        for (int replica = 0; replica < 4; replica++) {
            none.due(OUTSIDE, "dot " + replica + " 0 0");
            for (int of = 0; of < 4; of++) {
                none.each(0, "told " + replica + " " + of + " _", 0, 1, 2, 3, 10, 11, 12, 13);
            }
        }
        sentence(1, "No DOTS: all REPLICAS are ALIKE MET's STORE").due(4, "count 2").due(1, "apart 0 3 1").due(0, "apart 0 3 2");
        sentence(1, "no MESSAGES").due(0, "count 1").due(BAD, "letter 0 0").due(BAD, "come 0").due(BAD, "lose 0")
            .due(BAD, "twice 0");
        Sentence bags = sentence(1, "all OBJECTS are BAGS");
        for (int i = 0; i < 12; i++) {
            bags.due(BAG, "taken " + i / 4 + " " + i % 4 + " 0").due(BAG, "kind " + i / 4 + " " + i % 4 + " 5");
        }
        for (int from = 0; from < 4; from++) {
            Sentence parcels = sentence(1, "a PARCEL (a STORE; likewise of no DOTS at first), from " + from);
            for (int to = 0; to < 4; to++) {
                if (to != from) {
                    parcels.due(0, "send " + from + " " + to + " 1").due(0, "letter 0 2").due(0, "letter 0 3").due(0, "come 0");
                }
            }
        }
        sentence(1, "SHEETS: missing, as all are at first").each(LONG + MISSING, "item _ 0", 0, 1, 2, 3)
            .each(MISSING, "put _ 0 0", 0, 1, 2, 3).each(MISSING, "tells _ 0 0 0", 0, 1, 2, 3)
            .each(MISSING, "copy _ 0 0 0 0", 0, 1, 2, 3);
        sentence(1, "no IMAGE").due(STATE, "back");
        constants();
    }

    private static void constants() {
        int[] wants = {-1, -2, -3, -4};
        int[] constants = {JoinedStores.NONE, JoinedStores.BAD, JoinedStores.STATE, JoinedStores.FULL};
        for (int i = 0; i < 4; i++) {
            sentence(1, "BAD (-2), STATE (-3), FULL (-4), NONE is -1").same(wants[i], constants[i]);
        }
    }

    // ---- promise 2

    private static void addNumbers() {
        sentence(2, "at a REPLICA: REPLICAS 0 .. 3").due(0, "add 0 0 0 5").due(0, "add 3 0 0 5")
            .each(BAD, "add _ 0 0 5", NO_REPLICAS);
        sentence(2, "of the OBJECT: ROOM 0 .. 2").due(0, "add 0 0 0 5").due(1, "add 0 2 0 5").due(0, "dot 0 0 2")
            .due(20, "dot 0 1 2").each(BAD, "add 0 _ 0 5", NO_ROOMS);
        sentence(2, "of the OBJECT: NAME 0 .. 3").due(0, "add 0 0 0 5").due(1, "add 0 0 3 5").due(0, "dot 0 0 2")
            .due(3, "dot 0 1 2").each(BAD, "add 0 0 _ 5", NO_NAMES);
        sentence(2, "a VALUE v (an int)").due(0, "add 0 0 0 MIN").due(1, "add 0 0 0 MAX").due(2, "add 0 0 0 0")
            .due(3, "add 0 0 0 -1").due(MIN, "dot 0 0 0").due(MAX, "dot 0 1 0").due(0, "dot 0 2 0").due(-1, "dot 0 3 0");
        Sentence numbered = sentence(2, "a number 0 .. 30, numbered as they were made");
        for (int i = 0; i < 31; i++) {
            numbered.due(i, "add 2 " + i % 3 + " " + i % 4 + " " + i);
        }
        for (int i = 0; i < 31; i++) {
            numbered.due(i, "dot 2 " + i + " 0");
        }
        numbered.due(0, "add 3 0 0 5").due(0, "add 1 0 0 5").due(1, "add 3 0 0 5");
    }

    private static void addFull() {
        for (int replica = 0; replica < 4; replica++) {
            sentence(2, "FULL: 31 DOTS were made there, at " + replica).times(30, "add " + replica + " 0 0 5")
                .due(30, "add " + replica + " 0 0 5").due(FULL, "add " + replica + " 0 0 5")
                .due(FULL, "add " + replica + " 2 3 6").due(31, "count 0").due(ALL_31, "told " + replica + " " + replica + " 0")
                .due(ALL_31, "told " + replica + " " + replica + " 1");
        }
        sentence(2, "FULL: made there, not elsewhere").times(31, "add 0 0 0 5").due(0, "add 1 0 0 5").due(0, "add 3 0 0 5")
            .after("send 0 1 0").due(31, "come 0").due(1, "add 1 0 0 5").due(FULL, "add 0 0 0 5");
        sentence(2, "FULL: made ever, also if all are GONE").times(31, "add 0 0 0 5").due(31, "reset 0 0")
            .due(FULL, "add 0 0 0 5");
        sentence(2, "BAD, then FULL: the first that is named").times(31, "add 0 0 0 5").due(BAD, "add 0 3 0 5")
            .due(BAD, "add 0 -1 0 5").due(BAD, "add 0 0 4 5").due(BAD, "add 0 0 -1 5").due(BAD, "add 4 0 0 5");
        for (int kind = BAG; kind <= MEAN; kind++) {
            of(kind, 2, "FULL: nothing is GONE").times(31, "add 0 0 1 5").after("add 1 0 0 5", "send 1 0 0", "come 0")
                .due(FULL, "add 0 0 0 5").due(1, "told 0 1 1").due(1, "has 0 0 0 5");
        }
        sentence(2, "31 at most of each REPLICA: 124 in all").times(31, "add 0 0 0 5").times(31, "add 1 0 0 5")
            .times(31, "add 2 0 0 5").times(31, "add 3 0 0 5").each(FULL, "add _ 0 0 5", 0, 1, 2, 3).due(124, "count 0");
    }

    private static void addStamps() {
        sentence(2, "a STAMP (1, if it has none)").due(0, "add 0 0 0 5").due(0, "add 3 0 0 5").due(1, "dot 0 0 1")
            .due(1, "dot 3 0 1");
        sentence(2, "a STAMP 1 above the greatest of DOTS that it has HEARD: also of other OBJECTS and ROOMS")
            .after("add 0 2 3 5").due(1, "add 0 0 0 5").due(2, "dot 0 1 1").due(1, "dot 0 0 1");
        sentence(2, "a STAMP: HEARD, not ALIVE alone").after("add 0 0 0 5", "add 0 0 0 5", "take 0 0 0 5").due(2, "add 0 0 0 5")
            .due(3, "dot 0 2 1");
        sentence(2, "a STAMP: not of DOTS that it hasn't HEARD").times(5, "add 1 0 0 5").after("send 1 0 0").due(0, "add 0 0 0 5")
            .due(1, "dot 0 0 1").after("come 0").due(1, "add 0 0 0 5").due(6, "dot 0 1 1");
        sentence(2, "a STAMP: the greatest, whoever made it")
            .after("add 0 0 0 5", "add 2 0 0 5", "add 2 0 0 5", "add 2 0 0 5", "add 3 0 0 5")
            .after("send 0 1 0", "send 2 1 0", "send 3 1 0", "come 0", "come 0", "come 0").due(0, "add 1 0 0 5")
            .due(4, "dot 1 0 1");
        sentence(2, "a STAMP: 1 above, also where KNOWN alone tells of more")
            .after("add 1 0 0 5", "send 1 0 1", "lose 0", "send 1 0 1", "come 0").due(1, "told 0 1 11").due(0, "add 0 0 0 5")
            .due(1, "dot 0 0 1");
        sentence(2, "a STAMP: 124, the greatest that there can be").times(31, "add 0 0 0 5").after("send 0 1 0", "come 0")
            .times(31, "add 1 0 0 5").after("send 1 2 0", "come 0").times(31, "add 2 0 0 5").after("send 2 3 0", "come 0")
            .times(30, "add 3 0 0 5").due(30, "add 3 0 0 5").due(124, "dot 3 30 1").due(94, "dot 3 0 1").due(31, "dot 0 30 1");
    }

    private static void addGone() {
        of(BAG, 2, "GONE: BAG: none").after("add 0 0 0 5", "add 0 0 0 4").due(2, "add 0 0 0 5").due(0b111, "told 0 0 1");
        of(SET, 2, "GONE: SET: those of VALUE v").after("add 0 0 0 4", "add 0 0 0 5", "add 0 0 0 6").due(3, "add 0 0 0 5")
            .due(0b1101, "told 0 0 1").due(0b1111, "told 0 0 0");
        of(SET, 2, "GONE: those of VALUE v, at the ends of ints")
            .after("add 0 0 0 MIN", "add 0 0 0 MAX", "add 0 0 0 -1", "add 0 0 0 0").due(4, "add 0 0 0 MIN")
            .due(0b11110, "told 0 0 1").due(5, "add 0 0 0 MAX").due(0b111100, "told 0 0 1");
        of(BAG, 2, "GONE: SET: all those of VALUE v").times(3, "add 0 0 0 5").after("kind 0 0 1").due(3, "add 0 0 0 5")
            .due(0b1000, "told 0 0 1");
        of(COUNT, 2, "GONE: COUNT: as a BAG").after("add 0 0 0 5", "add 0 0 0 4").due(2, "add 0 0 0 5").due(0b111, "told 0 0 1");
        of(BAG, 2, "GONE: LATEST: all").after("add 0 0 0 MIN", "add 0 0 0 MAX", "add 0 0 0 5", "kind 0 0 3").due(3, "add 0 0 0 5")
            .due(0b1000, "told 0 0 1");
        of(BAG, 2, "GONE: MEAN: as a LATEST").after("add 0 0 0 MIN", "add 0 0 0 MAX", "add 0 0 0 5", "kind 0 0 5")
            .due(3, "add 0 0 0 5").due(0b1000, "told 0 0 1");
        of(BAG, 2, "GONE: MOST: those of VALUE v or less")
            .after("add 0 0 0 4", "add 0 0 0 5", "add 0 0 0 6", "add 0 0 0 MIN", "add 0 0 0 MAX").after("kind 0 0 4")
            .due(5, "add 0 0 0 5").due(0b110100, "told 0 0 1");
        of(BAG, 2, "GONE: MOST: of MIN or less").after("add 0 0 0 MIN", "add 0 0 0 -2147483647", "add 0 0 0 MAX", "kind 0 0 4")
            .due(3, "add 0 0 0 MIN").due(0b1110, "told 0 0 1");
        of(BAG, 2, "GONE: MOST: of MAX or less").after("add 0 0 0 MIN", "add 0 0 0 0", "add 0 0 0 MAX", "kind 0 0 4")
            .due(3, "add 0 0 0 MAX").due(0b1000, "told 0 0 1");
        int[] onlyOwn = {SET, LATEST, MOST, MEAN};
        for (int kind : onlyOwn) {
            of(kind, 2, "GONE: of the OBJECT alone").after("add 0 0 1 5", "add 0 1 0 5", "add 0 2 0 5", "add 0 0 3 5")
                .due(4, "add 0 0 0 5").due(0b11111, "told 0 0 1");
            of(kind, 2, "GONE: ahead of that: not the new DOT").due(0, "add 0 0 0 5").due(1, "told 0 0 1").due(1, "add 0 0 0 5")
                .due(0b10, "told 0 0 1");
            of(kind, 2, "GONE: none that it hasn't HEARD").after("add 1 0 0 5", "add 0 0 0 5", "send 1 0 0", "come 0")
                .due(1, "told 0 1 1").due(1, "told 0 0 1");
            of(kind, 2, "GONE: of its ALIVE DOTS, also of other REPLICAS").after("add 1 0 0 5", "send 1 0 0", "come 0")
                .due(0, "add 0 0 0 5").due(0, "told 0 1 1").due(1, "told 0 1 0").due(1, "told 1 1 1");
            of(kind, 2, "GONE: of its ALIVE DOTS: not those gone before").after("add 0 0 0 5", "add 0 0 0 5", "send 0 1 1")
                .due(2, "add 0 0 0 5").due(1, "send 0 1 1").due(2, "letter 1 2").due(1, "letter 1 3");
        }
    }

    private static void addNews() {
        sentence(2, "each PARCEL of it is JOINED with that").due(0, "add 2 0 0 5").after("send 2 0 1", "send 2 1 1", "send 2 3 1")
            .each(1, "letter _ 2", 0, 1, 2).each(1, "letter _ 3", 0, 1, 2);
        sentence(2, "its PARCELS, not those of others").due(0, "add 2 0 0 5").after("send 0 2 1", "send 1 2 1", "send 3 2 1")
            .each(0, "letter _ 2", 0, 1, 2);
        sentence(2, "the REPLICA's STORE, not those of others").due(0, "add 2 0 0 5").each(0, "told _ 2 0", 0, 1, 3)
            .due(1, "told 2 2 0").each(0, "told 2 _ 0", 0, 1, 3);
    }

    // ---- promise 3

    private static void take() {
        sentence(3, "how many are GONE: none of no DOTS").due(0, "take 0 0 0 5").due(0, "told 0 0 0");
        sentence(3, "how many are GONE: all 31").times(31, "add 3 2 3 5").due(31, "take 3 2 3 5").due(0, "told 3 3 1")
            .due(ALL_31, "told 3 3 0");
        sentence(3, "how many are GONE: of all REPLICAS, 124").times(31, "add 0 0 0 5").times(31, "add 1 0 0 5")
            .times(31, "add 2 0 0 5").times(31, "add 3 0 0 5")
            .after("send 0 3 1", "send 1 3 1", "send 2 3 1", "come 0", "come 0", "come 0").due(124, "take 3 0 0 5")
            .each(0, "told 3 _ 1", 0, 1, 2, 3).due(ALL_31, "told 0 0 1");
        sentence(3, "with VALUE v: not of one less or more").after("add 0 0 0 4", "add 0 0 0 5", "add 0 0 0 6")
            .due(1, "take 0 0 0 5").due(0b101, "told 0 0 1");
        sentence(3, "with VALUE v: at the ends of ints").after("add 0 0 0 MIN", "add 0 0 0 MAX", "add 0 0 0 0", "add 0 0 0 -1")
            .due(1, "take 0 0 0 MIN").due(0b1110, "told 0 0 1").due(1, "take 0 0 0 MAX").due(0b1100, "told 0 0 1")
            .due(1, "take 0 0 0 -1").due(1, "take 0 0 0 0").due(0, "told 0 0 1");
        sentence(3, "its ALIVE DOTS: none a second time").after("add 0 0 0 5").due(1, "take 0 0 0 5").due(0, "take 0 0 0 5");
        sentence(3, "of the OBJECT alone").after("add 0 0 0 5", "add 0 0 1 5", "add 0 1 0 5", "add 0 2 3 5")
            .due(1, "take 0 0 0 5").due(0b1110, "told 0 0 1").due(1, "take 0 2 3 5").due(0b0110, "told 0 0 1");
        sentence(3, "its ALIVE DOTS: none that it hasn't HEARD").after("add 1 0 0 5", "send 1 0 0").due(0, "take 0 0 0 5")
            .after("come 0").due(1, "told 0 1 1").due(1, "take 0 0 0 5").due(1, "told 1 1 1");
        for (int kind = BAG; kind <= MEAN; kind++) {
            of(BAG, 3, "those with VALUE v, whatever the KIND")
                .after("add 0 0 0 4", "add 0 0 0 5", "add 0 0 0 6", "kind 0 0 " + kind).due(1, "take 0 0 0 5")
                .due(0b101, "told 0 0 1");
        }
        sentence(3, "it makes no DOT, and so is never FULL").times(31, "add 0 0 0 5").due(31, "take 0 0 0 5").due(31, "count 0")
            .due(ALL_31, "told 0 0 0");
        sentence(3, "HEARD are GONE; ALIVE is none: in each PARCEL").after("add 0 0 0 5", "send 0 1 1", "send 0 2 1")
            .due(1, "take 0 0 0 5").after("send 0 1 1", "send 0 2 1", "send 0 3 1").each(1, "letter _ 2", 2, 3, 4)
            .each(0, "letter _ 3", 2, 3, 4);
        sentence(3, "GONE are none: no PARCEL has more").after("add 0 0 0 5", "send 0 1 1").due(0, "take 0 0 0 6")
            .after("send 0 1 1").due(0, "letter 1 2");
        sentence(3, "BAD: a REPLICA").after("add 0 0 0 5", "add 3 0 0 5").due(1, "take 0 0 0 5").due(1, "take 3 0 0 5")
            .each(BAD, "take _ 0 0 5", NO_REPLICAS);
        sentence(3, "BAD: a ROOM").after("add 0 0 0 5", "add 0 2 0 5").due(1, "take 0 0 0 5").due(1, "take 0 2 0 5")
            .each(BAD, "take 0 _ 0 5", NO_ROOMS);
        sentence(3, "BAD: a NAME").after("add 0 0 0 5", "add 0 0 3 5").due(1, "take 0 0 0 5").due(1, "take 0 0 3 5")
            .each(BAD, "take 0 0 _ 5", NO_NAMES);
        sentence(3, "BAD: nothing is GONE").after("add 0 0 0 5", "add 3 2 3 5", "add 0 1 0 5").due(BAD, "take -1 0 0 5")
            .due(BAD, "take 4 2 3 5").due(BAD, "take 0 3 0 5").due(BAD, "take 0 0 4 5").due(BAD, "take 0 1 -4 5")
            .due(1, "take 0 0 0 5");
    }

    // ---- promise 4

    private static void reset() {
        sentence(4, "how many are GONE: none of an empty ROOM").each(0, "reset 0 _", 0, 1, 2).each(0, "reset _ 0", 0, 1, 2, 3)
            .due(0, "count 0");
        sentence(4, "of all OBJECTS in it").after("add 0 1 0 MIN", "add 0 1 1 MAX", "add 0 1 2 0", "add 0 1 3 5")
            .due(4, "reset 0 1").due(0, "told 0 0 1").due(0b1111, "told 0 0 0");
        sentence(4, "in it: not in the ROOMS beside it").after("add 0 0 3 5", "add 0 1 0 5", "add 0 1 3 5", "add 0 2 0 5")
            .due(2, "reset 0 1").due(0b1001, "told 0 0 1");
        sentence(4, "the first and the last ROOM").after("add 0 0 3 5", "add 0 1 0 5", "add 0 2 3 5").due(1, "reset 0 0")
            .due(0b110, "told 0 0 1").due(1, "reset 0 2").due(0b010, "told 0 0 1");
        sentence(4, "its ALIVE DOTS: none a second time").after("add 0 1 0 5", "add 0 1 1 5", "take 0 1 1 5").due(1, "reset 0 1")
            .due(0, "reset 0 1");
        sentence(4, "all 31").times(31, "add 3 2 3 5").due(31, "reset 3 2").due(0, "told 3 3 1").due(ALL_31, "told 3 3 0")
            .due(31, "count 0");
        sentence(4, "all 124").times(31, "add 0 0 0 5").times(31, "add 1 0 1 5").times(31, "add 2 0 2 5").times(31, "add 3 0 3 5")
            .after("send 0 3 1", "send 1 3 1", "send 2 3 1", "come 0", "come 0", "come 0").due(124, "reset 3 0")
            .each(0, "told 3 _ 1", 0, 1, 2, 3).each(ALL_31, "told 3 _ 0", 0, 1, 2, 3);
        sentence(4, "its ALIVE DOTS: takes only what was HEARD of").after("add 1 0 0 5", "add 0 0 0 5", "send 1 0 0")
            .due(1, "reset 0 0").after("come 0").due(1, "told 0 1 1").due(0, "told 0 0 1").due(1, "reset 0 0")
            .due(0, "told 0 1 1").due(1, "told 1 1 1");
        sentence(4, "KINDS stay").after("kind 1 3 5", "add 0 1 3 5").due(1, "reset 0 1").due(5, "taken 1 3 5");
        sentence(4, "HEARD are GONE; ALIVE is none: in each PARCEL")
            .after("add 0 0 0 5", "add 0 0 1 5", "add 0 1 1 5", "send 0 1 1").due(2, "reset 0 0")
            .after("send 0 1 1", "send 0 2 1").due(2, "letter 1 2").due(0, "letter 1 3").due(3, "letter 2 2")
            .due(1, "letter 2 3");
        sentence(4, "BAD: a REPLICA").after("add 0 0 0 5", "add 3 0 0 5").each(BAD, "reset _ 0", NO_REPLICAS)
            .each(1, "reset _ 0", 0, 3);
        sentence(4, "BAD: a ROOM").after("add 0 0 0 5", "add 0 1 0 5", "add 0 2 0 5").each(BAD, "reset 0 _", NO_ROOMS)
            .each(1, "reset 0 _", 0, 2);
    }

    // ---- promises 5 and 6

    private static void kind() {
        sentence(5, "KIND 0 .. 5: of which it was").due(0, "kind 0 0 5").due(5, "kind 0 0 4").due(4, "kind 0 0 3")
            .due(3, "kind 0 0 2").due(2, "kind 0 0 1").due(1, "kind 0 0 0").due(0, "kind 0 0 0");
        sentence(5, "BAD: a KIND").after("kind 0 0 5").each(BAD, "kind 0 0 _", NO_KINDS).due(5, "kind 0 0 0")
            .each(BAD, "kind 0 0 _", NO_KINDS).due(0, "kind 0 0 5");
        sentence(5, "BAD: a ROOM").due(0, "kind 0 1 3").due(0, "kind 2 1 4").each(BAD, "kind _ 1 5", NO_ROOMS)
            .due(3, "kind 0 1 0").due(4, "kind 2 1 0");
        sentence(5, "BAD: a NAME").due(0, "kind 1 0 3").due(0, "kind 1 3 4").each(BAD, "kind 1 _ 5", NO_NAMES)
            .due(3, "kind 1 0 0").due(4, "kind 1 3 0");
        Sentence own = sentence(5, "An OBJECT is of KIND k, no other is");
        for (int i = 0; i < 12; i++) {
            own.due(0, "kind " + i / 4 + " " + i % 4 + " " + (1 + i % 5));
        }
        for (int i = 0; i < 12; i++) {
            own.due(1 + i % 5, "kind " + i / 4 + " " + i % 4 + " 0");
        }
        sentence(5, "from now on: what was GONE or ALIVE before stays so").after("add 0 0 0 5", "add 0 0 0 5", "kind 0 0 3")
            .due(0b11, "told 0 0 1").after("add 0 0 0 5").due(0, "kind 0 1 0").due(0b100, "told 0 0 1").due(3, "kind 0 0 0")
            .due(0b100, "told 0 0 1").after("add 0 0 0 5").due(0b1100, "told 0 0 1");
        sentence(5, "of all REPLICAS the same").after("add 0 0 0 7", "add 3 0 0 9").due(0, "kind 0 0 2").due(7, "worth 0 0 0")
            .due(9, "worth 3 0 0").due(16, "met 0 0");
    }

    private static void taken() {
        String[] takenFor = {"0", "01", "02", "013", "024", "0135"};
        for (int own = 0; own < 6; own++) {
            Sentence one = of(own, 6, "taken for its KIND, or one under that (also by others between); else -13");
            for (int k = 0; k < 6; k++) {
                one.due(takenFor[own].indexOf('0' + k) >= 0 ? own : UNLIKE, "taken 0 0 " + k);
            }
            one.each(BAD, "taken 0 0 _", NO_KINDS);
        }
        sentence(6, "BAD: a ROOM").after("kind 0 1 1", "kind 2 1 2").due(1, "taken 0 1 1").due(2, "taken 2 1 2")
            .each(BAD, "taken _ 1 0", NO_ROOMS);
        sentence(6, "BAD: a NAME").after("kind 1 0 1", "kind 1 3 2").due(1, "taken 1 0 1").due(2, "taken 1 3 2")
            .each(BAD, "taken 1 _ 0", NO_NAMES);
        sentence(6, "BAD, then -13: the first that is named").due(UNLIKE, "taken 0 0 5").due(BAD, "taken 3 0 5")
            .due(BAD, "taken 0 4 5").due(BAD, "taken -1 0 1");
    }

    // ---- promise 7

    private static void worthOfNone() {
        for (int kind = BAG; kind <= MEAN; kind++) {
            of(kind, 7, "WORTH of no DOTS: 0").each(0, "worth _ 0 0", 0, 1, 2, 3).after("add 0 0 0 5", "take 0 0 0 5")
                .due(0, "worth 0 0 0");
            of(kind, 7, "of its ALIVE DOTS of the OBJECT: not of the OBJECTS beside it")
                .after("add 0 0 1 7", "add 0 1 0 8", "add 0 2 3 9").due(0, "worth 0 0 0");
        }
        sentence(7, "BAD: a REPLICA, as of longs").after("add 0 0 0 5", "add 3 0 0 5").each(1, "worth _ 0 0", 0, 3)
            .each(LONG + BAD, "worth _ 0 0", NO_REPLICAS);
        sentence(7, "BAD: a ROOM, as of longs").after("add 0 0 0 5", "add 0 2 0 5").each(1, "worth 0 _ 0", 0, 2)
            .each(LONG + BAD, "worth 0 _ 0", NO_ROOMS);
        sentence(7, "BAD: a NAME, as of longs").after("add 0 0 0 5", "add 0 0 3 5").each(1, "worth 0 0 _", 0, 3)
            .each(LONG + BAD, "worth 0 0 _", NO_NAMES);
        of(COUNT, 7, "an answer as small as a refusal of ints is none").after("add 0 0 0 -2").due(-2, "worth 0 0 0")
            .due(-2, "met 0 0");
    }

    private static void worthOfKinds() {
        String[] values = {"add 0 0 0 MIN", "add 0 0 0 MIN", "add 0 0 0 -3"};
        of(BAG, 7, "BAG: how many they are").after(values).due(3, "worth 0 0 0").due(0, "worth 1 0 0");
        of(BAG, 7, "SET: as a BAG").after(values).after("kind 0 0 1").due(3, "worth 0 0 0");
        of(COUNT, 7, "COUNT's sum is a long: below the least int").after(values).due(-4294967299L, "worth 0 0 0");
        of(COUNT, 7, "COUNT's sum is a long: at the greatest int, and 1 above").after("add 0 0 0 MAX")
            .due(2147483647L, "worth 0 0 0").after("add 0 0 0 1").due(2147483648L, "worth 0 0 0").after("add 0 0 0 MIN")
            .due(0, "worth 0 0 0");
        of(COUNT, 7, "COUNT's sum is a long: 31 of the greatest").times(31, "add 0 0 0 MAX").due(66571993057L, "worth 0 0 0");
        of(COUNT, 7, "COUNT's sum is a long: 31 of the least").times(31, "add 0 0 0 MIN").due(-66571993088L, "worth 0 0 0");
        of(LATEST, 7, "LATEST: the greatest STAMP, not VALUE nor REPLICA")
            .after("add 3 0 0 9", "add 0 0 1 1", "add 0 0 0 MIN", "send 3 0 0", "come 0").due(0b1, "told 0 3 1")
            .due(MIN, "worth 0 0 0");
        of(LATEST, 7, "LATEST: of like STAMPS the greatest REPLICA")
            .after("add 0 0 0 9", "add 1 0 0 8", "add 2 0 0 7", "send 2 1 0", "send 0 1 0", "come 0", "come 0")
            .due(7, "worth 1 0 0").after("add 3 0 0 -1", "send 3 1 0", "come 0").due(-1, "worth 1 0 0");
        of(BAG, 7, "LATEST: of one REPLICA the greatest STAMP")
            .after("add 0 0 0 9", "add 0 0 0 MAX", "add 0 0 0 -5", "kind 0 0 3").due(-5, "worth 0 0 0").after("take 0 0 0 -5")
            .due(MAX, "worth 0 0 0");
        of(LATEST, 7, "LATEST: a greatest STAMP of the least REPLICA").after("add 3 0 0 9", "add 0 0 0 1", "send 3 0 0")
            .after("add 0 0 0 2", "come 0").due(2, "worth 0 0 0");
        of(BAG, 7, "MOST: the greatest VALUE").after("add 0 0 0 -7", "add 0 0 0 -3", "add 0 0 0 MIN", "kind 0 0 4")
            .due(-3, "worth 0 0 0").after("add 0 0 0 MIN").due(-3, "worth 0 0 0").after("add 0 0 0 0").due(0, "worth 0 0 0")
            .after("add 0 0 0 MAX").due(MAX, "worth 0 0 0");
        of(MOST, 7, "MOST: the least int is a VALUE, and not none").after("add 0 0 0 MIN").due(MIN, "worth 0 0 0")
            .after("take 0 0 0 MIN").due(0, "worth 0 0 0");
        of(MOST, 7, "MOST: of several REPLICAS")
            .after("add 0 0 0 5", "add 1 0 0 9", "add 2 0 0 7", "send 1 0 0", "send 2 0 0", "come 0", "come 0")
            .due(9, "worth 0 0 0");
    }

    private static void worthOfMean() {
        of(MEAN, 7, "MEAN: VALUES, as floats: a tie goes to the even one").after("add 0 0 0 16777217")
            .due(bits(16777216f), "worth 0 0 0").after("add 0 0 0 16777219").due(bits(16777220f), "worth 0 0 0")
            .after("add 0 0 0 -16777217").due(bits(-16777216f), "worth 0 0 0");
        of(MEAN, 7, "MEAN: as the int of its 32 bits, at the ends of ints").after("add 0 0 0 MAX").due(0x4F000000, "worth 0 0 0")
            .after("add 0 0 0 MIN").due(0xCF000000, "worth 0 0 0").after("add 0 0 0 1").due(0x3F800000, "worth 0 0 0")
            .after("add 0 0 0 -1").due(0xBF800000, "worth 0 0 0").after("add 0 0 0 0").due(0, "worth 0 0 0");
        of(BAG, 7, "MEAN: each rounded by itself: the sum")
            .after("add 0 0 0 16777216", "add 0 0 0 1", "add 0 0 0 1", "add 0 0 0 1", "kind 0 0 5")
            .due(bits(4194304f), "worth 0 0 0");
        of(BAG, 7, "MEAN: of each by numbers")
            .after("add 0 0 0 1", "add 0 0 0 1", "add 0 0 0 1", "add 0 0 0 16777216", "kind 0 0 5")
            .due(bits(4194305f), "worth 0 0 0");
        of(BAG, 7, "MEAN: summed by REPLICAS")
            .after("add 1 0 0 16777216", "add 0 0 0 1", "add 0 0 0 1", "add 0 0 0 1", "send 0 1 0", "come 0", "kind 0 0 5")
            .due(bits(4194305f), "worth 1 0 0");
        of(BAG, 7, "MEAN: summed by REPLICAS, the greatest last")
            .after("add 0 0 0 16777216", "add 3 0 0 1", "add 3 0 0 1", "add 3 0 0 1", "send 0 3 0", "come 0", "kind 0 0 5")
            .due(bits(4194304f), "worth 3 0 0");
        of(BAG, 7, "MEAN: divided as a float: a third, rounded").after("add 0 0 0 1", "add 0 0 0 0", "add 0 0 0 0", "kind 0 0 5")
            .due(0x3EAAAAAB, "worth 0 0 0");
        of(BAG, 7, "MEAN: divided as a float: two thirds below 0")
            .after("add 0 0 0 -1", "add 0 0 0 -1", "add 0 0 0 0", "kind 0 0 5").due(0xBF2AAAAB, "worth 0 0 0");
        of(BAG, 7, "MEAN: a sum of 0 has no sign").after("add 0 0 0 -5", "add 0 0 0 5", "kind 0 0 5").due(0, "worth 0 0 0");
        of(BAG, 7, "MEAN: of 0 alone").after("add 0 0 0 0", "add 0 0 0 0", "kind 0 0 5").due(0, "worth 0 0 0");
        of(BAG, 7, "MEAN: a sum beyond ints").after("add 0 0 0 MAX", "add 0 0 0 MAX", "add 0 0 0 MAX", "kind 0 0 5")
            .due(0x4F000000, "worth 0 0 0");
        of(BAG, 7, "MEAN: the smallest but 0: 1 of 31").after("add 0 0 0 1").times(30, "add 0 0 0 0").after("kind 0 0 5")
            .due(bits(1f / 31f), "worth 0 0 0");
        of(BAG, 7, "MEAN: the smallest but 0, below it").after("add 0 0 0 -1").times(30, "add 0 0 0 0").after("kind 0 0 5")
            .due(bits(-1f / 31f), "worth 0 0 0");
    }

    private static void worthFull() {
        String[] least = {"add 0 0 0 MIN", "add 1 0 0 MIN", "add 2 0 0 MIN", "add 3 0 0 MIN"};
        Sentence all = of(BAG, 7, "of all 124 DOTS");
        for (String text : least) {
            all.times(31, text);
        }
        all.after("send 1 0 0", "send 2 0 0", "send 3 0 0", "come 0", "come 0", "come 0").due(124, "worth 0 0 0")
            .after("kind 0 0 1").due(124, "worth 0 0 0").after("kind 0 0 2").due(-266287972352L, "worth 0 0 0")
            .after("kind 0 0 3").due(MIN, "worth 0 0 0").after("kind 0 0 4").due(MIN, "worth 0 0 0").after("kind 0 0 5")
            .due(0xCF000000, "worth 0 0 0");
    }

    // ---- promise 8

    private static void toldHeardAndAlive() {
        sentence(8, "BAD: a REPLICA").after("add 0 0 0 5", "add 3 0 0 5").due(1, "told 0 0 0").due(1, "told 3 3 0")
            .each(BAD, "told _ 0 0", NO_REPLICAS);
        sentence(8, "BAD: REPLICA of").after("add 0 0 0 5", "add 3 0 0 5").each(BAD, "told 0 _ 0", NO_REPLICAS)
            .each(BAD, "told 0 _ 10", NO_REPLICAS).due(0, "told 0 3 0").due(0, "told 3 0 0");
        sentence(8, "BAD: what: 0 .. 3 and 10 .. 13").after("add 0 0 0 5")
            .each(BAD, "told 0 0 _", -1, 4, 5, 8, 9, 14, 20, MIN, MAX).each(BAD, "told 0 3 _", -1, 4, 9, 14, MIN, MAX)
            .each(1, "told 0 0 _", 0, 1, 10).each(0, "told 0 0 _", 2, 3, 11, 12, 13);
        sentence(8, "HEARD (bits 0 .. 30): the first and the last").after("add 1 0 0 5").due(1, "told 1 1 0")
            .times(29, "add 1 0 0 5").due(0x3FFFFFFF, "told 1 1 0").after("add 1 0 0 5").due(ALL_31, "told 1 1 0");
        sentence(8, "ALIVE (1): the first and the last").after("add 1 0 0 1").times(29, "add 1 0 0 5").after("add 1 0 0 2")
            .due(ALL_31, "told 1 1 1").after("take 1 0 0 1").due(ALL_31 - 1, "told 1 1 1").after("take 1 0 0 2")
            .due(0x3FFFFFFE, "told 1 1 1").after("take 1 0 0 5").due(0, "told 1 1 1");
        sentence(8, "of REPLICA of: of no other's DOTS")
            .after("add 0 0 0 5", "add 1 0 0 5", "add 1 0 0 5", "send 1 0 0", "come 0").due(1, "told 0 0 0").due(3, "told 0 1 0")
            .due(0, "told 0 2 0").due(3, "told 1 1 0").due(0, "told 1 0 0");
        sentence(8, "JOINED: ALIVE are those that are so in both")
            .after("add 0 0 0 5", "add 0 0 0 6", "add 0 0 0 7", "send 0 1 0", "come 0", "take 0 0 0 5", "take 1 0 0 6")
            .after("send 0 1 0", "come 0").due(0b100, "told 1 0 1").due(0b111, "told 1 0 0").after("send 1 0 0", "come 0")
            .due(0b100, "told 0 0 1");
        sentence(8, "JOINED: those that are so in one and that the other hasn't HEARD")
            .after("add 0 0 0 5", "add 1 0 0 6", "send 0 1 0", "come 0").due(1, "told 1 0 1").due(1, "told 1 1 1");
        sentence(8, "JOINED: HEARD without being ALIVE takes away")
            .after("add 0 0 0 5", "send 0 1 0", "take 0 0 0 5", "send 0 1 0").due(1, "come 1").due(0, "told 1 0 1")
            .due(0, "come 0").due(0, "told 1 0 1");
    }

    private static final String[] ONE_KNOWS_ALL_HEARD = {"add 0 0 0 5", "send 0 1 0", "send 0 2 0", "send 0 3 0", "come 0", "come 0", "come 0",
        "send 1 0 1", "send 2 0 1", "send 3 0 1"};

    private static void toldStableAndTags() {
        for (int missing = 0; missing < 3; missing++) {
            Sentence two = sentence(8, "STABLE: all three others, not two: without " + (missing + 1)).after(ONE_KNOWS_ALL_HEARD)
                .after("twice " + missing, "lose " + missing);
            two.after("come 0", "come 0").due(0, "told 0 0 2").after("come 0").due(1, "told 0 0 2");
        }
        sentence(8, "STABLE: at a REPLICA, not at those who heard").after(ONE_KNOWS_ALL_HEARD).after("come 0", "come 0", "come 0")
            .due(1, "told 0 0 2").each(0, "told _ 0 2", 1, 2, 3);
        sentence(8, "STABLE: the last DOT (bit 30) alone is not").times(30, "add 0 0 0 5")
            .after("send 0 1 0", "send 0 2 0", "send 0 3 0", "come 0", "come 0", "come 0")
            .after("add 0 0 0 5", "send 1 0 1", "send 2 0 1", "send 3 0 1", "come 0", "come 0", "come 0")
            .due(0x3FFFFFFF, "told 0 0 2");
        sentence(8, "STABLE: all 31").times(31, "add 0 0 0 5")
            .after("send 0 1 0", "send 0 2 0", "send 0 3 0", "come 0", "come 0", "come 0")
            .after("send 1 0 1", "send 2 0 1", "send 3 0 1", "come 0", "come 0", "come 0").due(ALL_31, "told 0 0 2")
            .due(ALL_31, "told 0 0 1").due(0, "told 0 0 3").after("take 0 0 0 5").due(ALL_31, "told 0 0 2").due(0, "told 0 0 3")
            .due(0, "told 0 0 1");
        sentence(8, "STABLE: that it has HEARD itself")
            .after("add 1 0 0 5", "send 1 2 0", "send 1 3 0", "come 0", "come 0", "send 1 0 1", "lose 0")
            .after("send 1 0 1", "send 2 0 1", "send 3 0 1", "come 0", "come 0", "come 0").each(1, "told 0 _ 11", 1, 2, 3)
            .due(0, "told 0 0 11").due(0, "told 0 1 2").due(0, "told 0 1 3");
        sentence(8, "STABLE: of another's DOT, the maker is one of the three")
            .after("add 1 0 0 5", "send 1 0 1", "send 1 2 0", "send 1 3 0", "come 0", "come 0", "come 0").due(1, "told 0 1 11")
            .due(0, "told 0 1 2").after("send 2 0 1", "send 3 0 1", "come 0").due(0, "told 0 1 2").after("come 0")
            .due(1, "told 0 1 2");
        sentence(8, "TAGS: aren't ALIVE").after("add 0 0 0 5", "add 0 0 0 6").due(0, "told 0 0 3").after("take 0 0 0 6")
            .due(0b10, "told 0 0 3").after("take 0 0 0 5").due(0b11, "told 0 0 3");
        sentence(8, "TAGS: nor STABLE").after(ONE_KNOWS_ALL_HEARD).after("take 0 0 0 5", "come 0", "come 0").due(1, "told 0 0 3")
            .after("come 0").due(0, "told 0 0 3");
        sentence(8, "TAGS: all 31").times(31, "add 3 0 0 5").due(0, "told 3 3 3").after("take 3 0 0 5").due(ALL_31, "told 3 3 3");
        sentence(8, "TAGS: of those HEARD alone").after("add 1 0 0 5", "take 1 0 0 5").due(0, "told 0 1 3").due(1, "told 1 1 3")
            .after("send 1 0 0", "come 0").due(1, "told 0 1 3");
    }

    /** Of all three others the one named last is heard of last. */
    private static void toldStableEverywhere() {
        for (int replica = 0; replica < 4; replica++) {
            for (int maker = 0; maker < 4; maker++) {
                for (int last = 0; last < 4; last++) {
                    if (last != replica) {
                        stableByTheLast(replica, maker, last);
                    }
                }
            }
        }
    }

    private static void stableByTheLast(int replica, int maker, int last) {
        String words = "STABLE, TAGS: at " + replica + " of DOTS of " + maker + ": not without " + last;
        Sentence one = sentence(8, words).after("add " + maker + " 0 0 5", "add " + maker + " 0 0 6", "take " + maker + " 0 0 6");
        for (int to = 0; to < 4; to++) {
            if (to != maker && to != replica) {
                one.after("send " + maker + " " + to + " 0", "come 0");
            }
        }
        if (replica == maker) {
            one.after("send " + replica + " " + last + " 0", "come 0");
        }
        for (int from = 0; from < 4; from++) {
            if (from != replica && from != last) {
                one.after("send " + from + " " + replica + " 0", "come 0");
            }
        }
        String told = "told " + replica + " " + maker + " ";
        one.due(0b11, told + "0").due(0, told + "2").due(0b10, told + "3").after("send " + last + " " + replica + " 0", "come 0");
        one.due(0b11, told + "2").due(0, told + "3").due(0b01, told + "1");
    }

    private static void toldKnown() {
        sentence(8, "KNOWN, of each other one; none at first").each(0, "told 0 1 _", 10, 11, 12, 13).after("add 1 0 0 5")
            .each(0, "told 0 1 _", 10, 11, 12, 13);
        sentence(8, "of itself: what it has HEARD")
            .after("add 0 0 0 5", "add 3 0 0 5", "add 3 0 0 6", "send 3 0 0", "come 0", "take 0 0 0 5").due(1, "told 0 0 10")
            .due(0, "told 0 0 11").due(3, "told 0 0 13").due(3, "told 3 3 13").due(0, "told 3 3 10");
        sentence(8, "DOTS of REPLICA what - 10: the first and the last").times(31, "add 0 0 0 5").times(31, "add 3 0 0 5")
            .after("send 0 3 0", "come 0", "send 3 1 0", "come 0").due(ALL_31, "told 1 3 10").due(ALL_31, "told 1 3 13")
            .due(0, "told 1 3 11").due(0, "told 1 3 12").due(0, "told 1 0 10").due(ALL_31, "told 3 0 10").due(0, "told 3 0 13");
        sentence(8, "KNOWN: of several MESSAGES all together")
            .after("add 0 0 0 5", "send 0 1 1", "add 0 0 0 5", "send 0 1 1", "add 0 0 0 5").due(1, "come 1")
            .due(0b11, "told 1 0 10").due(1, "come 0").due(0b11, "told 1 0 10");
        sentence(8, "its sender has HEARD all that it had then: not later").after("add 0 0 0 5", "send 0 1 0", "add 0 0 0 5")
            .due(1, "come 0").due(0b1, "told 1 0 10");
        sentence(8, "KNOWN: by its coming alone").after("add 0 0 0 5", "send 0 1 0").due(0, "told 1 0 10").after("lose 0")
            .due(0, "told 1 0 10");
        sentence(8, "KNOWN: of its sender alone, not of who made it, nor at the sender")
            .after("add 0 0 0 5", "send 0 1 0", "come 0", "send 1 2 0", "come 0").due(1, "told 2 1 10").due(0, "told 2 0 10")
            .due(0, "told 1 2 10").due(0, "told 0 1 10");
    }

    // ---- promises 9 and 10

    private static void dot() {
        sentence(9, "VALUE, STAMP, 10 * ROOM + NAME: of the first and the last OBJECT")
            .after("add 0 0 0 5", "add 0 2 3 6", "add 0 1 0 7", "add 0 0 3 8", "add 0 2 0 9").due(0, "dot 0 0 2")
            .due(23, "dot 0 1 2").due(10, "dot 0 2 2").due(3, "dot 0 3 2").due(20, "dot 0 4 2").due(9, "dot 0 4 0")
            .due(5, "dot 0 4 1");
        sentence(9, "BAD: what 0 .. 2").after("add 0 0 0 5").each(BAD, "dot 0 0 _", -1, 3, 10, MIN, MAX).due(5, "dot 0 0 0")
            .due(1, "dot 0 0 1").due(0, "dot 0 0 2");
        sentence(9, "-12: it wasn't made: behind the last one").each(OUTSIDE, "dot 0 0 _", 0, 1, 2).after("add 0 0 0 5")
            .due(5, "dot 0 0 0").each(OUTSIDE, "dot 0 1 _", 0, 1, 2).each(OUTSIDE, "dot 0 _ 0", -1, 1, 2, 30, 31, MIN, MAX)
            .due(OUTSIDE, "dot 1 0 0");
        sentence(9, "-12: of 31 none behind number 30").times(30, "add 0 0 0 5").after("add 0 0 0 6", "add 1 0 0 7")
            .due(6, "dot 0 30 0").due(31, "dot 0 30 1").due(OUTSIDE, "dot 0 31 0").due(OUTSIDE, "dot 0 -1 0")
            .due(OUTSIDE, "dot 1 -1 0").due(OUTSIDE, "dot 1 1 0");
        sentence(9, "-12: of none of the REPLICAS").after("add 0 0 0 5", "add 3 0 0 5").each(5, "dot _ 0 0", 0, 3)
            .each(OUTSIDE, "dot _ 0 0", NO_REPLICAS);
        sentence(9, "BAD, then -12: the first that is named").due(BAD, "dot 0 0 3").due(BAD, "dot 0 -1 -1").due(BAD, "dot 4 0 3")
            .due(BAD, "dot 0 31 MAX");
        sentence(9, "of a DOT, ALIVE or not").after("add 0 1 1 5", "take 0 1 1 5").due(5, "dot 0 0 0").due(1, "dot 0 0 1")
            .due(11, "dot 0 0 2");
        sentence(9, "VALUE at the ends of ints").after("add 0 0 0 MIN", "add 0 0 0 MAX").due(MIN, "dot 0 0 0")
            .due(MAX, "dot 0 1 0");
        sentence(9, "it wasn't made: since THE IMAGE it is as if").after("add 0 0 0 5", "image", "add 0 0 0 6", "back")
            .due(5, "dot 0 0 0").due(OUTSIDE, "dot 0 1 0");
    }

    private static void has() {
        sentence(10, "how many: of no DOTS 0").each(0, "has 0 0 0 _", 0, 5, MIN, MAX);
        sentence(10, "have VALUE v: not of one less or more").after("add 0 0 0 4", "add 0 0 0 6").due(0, "has 0 0 0 5")
            .due(1, "has 0 0 0 4").due(1, "has 0 0 0 6");
        sentence(10, "have VALUE v: at the ends of ints").after("add 0 0 0 MIN", "add 0 0 0 MAX", "add 0 0 0 MAX")
            .due(1, "has 0 0 0 MIN").due(2, "has 0 0 0 MAX").due(0, "has 0 0 0 0").due(0, "has 0 0 0 -1");
        sentence(10, "how many: 31, and 124 of all").times(31, "add 3 2 3 5").due(31, "has 3 2 3 5").times(31, "add 0 2 3 5")
            .times(31, "add 1 2 3 5").times(31, "add 2 2 3 5")
            .after("send 0 3 1", "send 1 3 1", "send 2 3 1", "come 0", "come 0", "come 0").due(124, "has 3 2 3 5");
        sentence(10, "ALIVE").after("add 0 0 0 5", "add 0 0 0 5", "take 0 0 0 5", "add 0 0 0 5").due(1, "has 0 0 0 5");
        sentence(10, "of an OBJECT: not of those beside it").after("add 0 0 1 5", "add 0 1 0 5", "add 0 2 3 5")
            .due(0, "has 0 0 0 5").due(1, "has 0 0 1 5").due(1, "has 0 1 0 5").due(1, "has 0 2 3 5").due(0, "has 0 2 2 5");
        sentence(10, "at a REPLICA").after("add 0 0 0 5").due(1, "has 0 0 0 5").each(0, "has _ 0 0 5", 1, 2, 3);
        sentence(10, "BAD: a REPLICA").after("add 0 0 0 5", "add 3 0 0 5").each(1, "has _ 0 0 5", 0, 3)
            .each(BAD, "has _ 0 0 5", NO_REPLICAS);
        sentence(10, "BAD: a ROOM").after("add 0 0 0 5", "add 0 2 0 5").each(1, "has 0 _ 0 5", 0, 2)
            .each(BAD, "has 0 _ 0 5", NO_ROOMS);
        sentence(10, "BAD: a NAME").after("add 0 0 0 5", "add 0 0 3 5").each(1, "has 0 0 _ 5", 0, 3)
            .each(BAD, "has 0 0 _ 5", NO_NAMES);
    }
}
