/** For each promise of the document ordinary calls, the edges that it names, and wrong numbers. */
public final class PromisesTest {
    private static final int BAG = 0, SET = 1, COUNT = 2, LATEST = 3, MOST = 4, MEAN = 5;
    private static final int ALL_DOTS = Integer.MAX_VALUE;
    private static final int[] WRONG_REPLICAS = {-1, 4, Integer.MIN_VALUE, Integer.MAX_VALUE};

    private static int tried;
    private static int wrong;
    private static int promise;

    private static void due(String call, long want, long got) {
        tried++;
        if (got != want) {
            wrong++;
            System.out.println("promise " + promise + ": " + call + " answered " + got + ", due is " + want);
        }
    }

    private static long ofLongs(long refusal) {
        return refusal - 1000000000000L;
    }

    /** Sends and lets come; nothing else may wait. */
    private static void tell(JoinedStores x, int from, int to, int what) {
        due("send in tell", 0, x.send(from, to, what));
        x.come(0);
    }

    private static void tellAllRound(JoinedStores x) {
        for (int turn = 0; turn < 2; turn++) {
            for (int from = 0; from < 4; from++) {
                for (int to = 0; to < 4; to++) {
                    if (from != to) {
                        tell(x, from, to, 0);
                    }
                }
            }
        }
    }

    private static int bits(float f) {
        return Float.floatToIntBits(f);
    }

    public static void main(String[] args) {
        aNewObject();
        addToBagAndCount();
        addToSet();
        addToLatestMeanAndMost();
        addRefuses();
        stamps();
        take();
        reset();
        kind();
        taken();
        worth();
        worthOfLatest();
        worthOfMean();
        told();
        knownAndStable();
        dot();
        has();
        sendWholeAndParcels();
        sendRefuses();
        parcelsTellOnlyWhatIsDoneHere();
        come();
        addWinsOverTake();
        lose();
        twice();
        letter();
        met();
        apart();
        needs();
        drawn();
        chance();
        tells();
        tellsRefuses();
        film();
        imageAndBack();
        imageKeepsAll();
        count();
        sheet();
        put();
        item();
        copy();
        System.out.println(tried + " answers tried, " + wrong + " wrong");
        if (wrong != 0) {
            System.exit(1);
        }
    }

    private static void aNewObject() {
        promise = 1;
        JoinedStores x = new JoinedStores();
        for (int room = 0; room < 3; room++) {
            for (int name = 0; name < 4; name++) {
                due("taken", BAG, x.taken(room, name, BAG));
                due("met", 0, x.met(room, name));
                for (int replica = 0; replica < 4; replica++) {
                    due("worth", 0, x.worth(replica, room, name));
                }
            }
        }
        for (int replica = 0; replica < 4; replica++) {
            for (int of = 0; of < 4; of++) {
                for (int what = 0; what < 4; what++) {
                    due("told", 0, x.told(replica, of, what));
                    due("told known", 0, x.told(replica, of, what + 10));
                }
            }
            due("dot", -12, x.dot(replica, 0, 0));
        }
        due("count 0", 0, x.count(0));
        due("count 1", 0, x.count(1));
        due("count 2", 4, x.count(2));
        due("count 3", 0, x.count(3));
        due("count 4", 0, x.count(4));
        due("back", JoinedStores.STATE, x.back());
        due("letter", JoinedStores.BAD, x.letter(0, 0));
        for (int sheet = 0; sheet < 4; sheet++) {
            due("item", ofLongs(-11), x.item(sheet, 0));
        }
    }

    private static void addToBagAndCount() {
        promise = 2;
        for (int k = BAG; k <= COUNT; k += COUNT) {
            JoinedStores x = new JoinedStores();
            x.kind(2, 3, k);
            due("add", 0, x.add(3, 2, 3, 5));
            due("add", 1, x.add(3, 2, 3, 5));
            due("add", 2, x.add(3, 2, 3, -5));
            due("add elsewhere", 0, x.add(0, 2, 3, 5));
            due("told alive", 7, x.told(3, 3, 1));
            due("told heard", 7, x.told(3, 3, 0));
            due("told there", 0, x.told(0, 3, 0));
        }
    }

    private static void addToSet() {
        promise = 2;
        JoinedStores x = new JoinedStores();
        x.kind(0, 0, SET);
        x.add(0, 0, 0, 5);
        x.add(0, 0, 0, 6);
        x.add(0, 0, 1, 5);
        due("add", 3, x.add(0, 0, 0, 5));
        due("alive", 0b1110, x.told(0, 0, 1));
        tell(x, 0, 1, 0);
        due("add", 0, x.add(1, 0, 0, 6));
        due("another's is gone", 0b1100, x.told(1, 0, 1));
        due("its own", 1, x.told(1, 1, 1));
        due("elsewhere it is not", 0b1110, x.told(0, 0, 1));
    }

    private static void addToLatestMeanAndMost() {
        promise = 2;
        int[] lastsOf = {LATEST, MEAN};
        for (int k : lastsOf) {
            JoinedStores x = new JoinedStores();
            x.add(0, 1, 2, 8);
            x.add(0, 1, 2, 9);
            x.add(0, 1, 1, 9);
            x.kind(1, 2, k);
            x.add(0, 1, 2, 1);
            due("all of the object are gone", 0b1100, x.told(0, 0, 1));
            due("and heard", 0b1111, x.told(0, 0, 0));
        }
        JoinedStores x = new JoinedStores();
        x.add(0, 1, 2, 8);
        x.add(0, 1, 2, 9);
        x.add(0, 1, 2, 10);
        x.add(0, 1, 2, Integer.MIN_VALUE);
        x.kind(1, 2, MOST);
        x.add(0, 1, 2, 9);
        due("those of the value or less are gone", 0b10100, x.told(0, 0, 1));
    }

    private static void addRefuses() {
        promise = 2;
        JoinedStores x = new JoinedStores();
        for (int replica : WRONG_REPLICAS) {
            due("add", -2, x.add(replica, 0, 0, 0));
            due("add", -2, x.add(0, 0, replica, 0));
        }
        due("add", -2, x.add(0, -1, 0, 0));
        due("add", -2, x.add(0, 3, 0, 0));
        for (int i = 0; i < 31; i++) {
            due("add", i, x.add(1, i % 3, i % 4, i));
        }
        due("add", -4, x.add(1, 0, 0, 0));
        due("BAD before FULL", -2, x.add(1, 3, 0, 0));
        due("others are not full", 0, x.add(2, 0, 0, 0));
        x.kind(0, 0, LATEST);
        due("FULL", -4, x.add(1, 0, 0, 0));
        due("and nothing is gone", ALL_DOTS, x.told(1, 1, 1));
        due("count", 32, x.count(0));
    }

    private static void stamps() {
        promise = 2;
        JoinedStores x = new JoinedStores();
        x.add(0, 0, 0, 1);
        x.add(0, 2, 1, 1);
        due("stamp", 1, x.dot(0, 0, 1));
        due("stamp of another object", 2, x.dot(0, 1, 1));
        x.add(1, 0, 0, 1);
        due("stamp elsewhere", 1, x.dot(1, 0, 1));
        x.take(0, 2, 1, 1);
        tell(x, 0, 1, 0);
        x.add(1, 0, 0, 1);
        due("stamp above one gone", 3, x.dot(1, 1, 1));
    }

    private static void take() {
        promise = 3;
        JoinedStores x = new JoinedStores();
        x.add(0, 0, 0, 5);
        x.add(0, 0, 0, 5);
        x.add(0, 0, 0, 6);
        x.add(0, 0, 1, 5);
        x.add(1, 0, 0, 5);
        due("take none", 0, x.take(0, 0, 0, 7));
        due("take none there", 0, x.take(2, 0, 0, 5));
        due("take", 2, x.take(0, 0, 0, 5));
        due("take again", 0, x.take(0, 0, 0, 5));
        due("alive", 0b1100, x.told(0, 0, 1));
        due("heard", 0b1111, x.told(0, 0, 0));
        due("another's", 1, x.told(1, 1, 1));
        for (int replica : WRONG_REPLICAS) {
            due("take", -2, x.take(replica, 0, 0, 5));
            due("take", -2, x.take(0, replica, 0, 5));
            due("take", -2, x.take(0, 0, replica, 5));
        }
        due("take", -2, x.take(0, 3, 0, 5));
        x.send(0, 3, 1);
        x.take(0, 0, 0, 6);
        x.send(0, 2, 1);
        x.send(0, 3, 1);
        due("what is gone in the parcel", 4, x.letter(1, 2));
        due("what is alive in the parcel", 1, x.letter(1, 3));
        due("only what is gone", 1, x.letter(2, 2));
        due("none alive", 0, x.letter(2, 3));
        x.come(0);
        due("the one of value 5 of another object is there", 0b1000, x.told(3, 0, 1) & 0b1001);
        x.come(1);
        due("taken there too", 0b1000, x.told(3, 0, 1));
    }

    private static void reset() {
        promise = 4;
        JoinedStores x = new JoinedStores();
        x.kind(1, 1, COUNT);
        for (int name = 0; name < 4; name++) {
            x.add(0, 1, name, 3);
        }
        x.add(0, 0, 0, 3);
        x.add(0, 2, 0, 3);
        x.add(1, 1, 0, 3);
        due("reset", 4, x.reset(0, 1));
        due("reset again", 0, x.reset(0, 1));
        due("other rooms", 0b110000, x.told(0, 0, 1));
        due("not what wasn't heard of", 1, x.worth(1, 1, 0));
        tell(x, 1, 0, 0);
        due("it is there after it came", 1, x.worth(0, 1, 0));
        tell(x, 0, 1, 1);
        due("and there", 1, x.worth(1, 1, 0));
        due("reset of another's", 1, x.reset(0, 1));
        due("what it adds isn't made", 7, x.count(0));
        due("reset", -2, x.reset(0, -1));
        due("reset", -2, x.reset(0, 3));
        due("reset", -2, x.reset(-1, 0));
        due("reset", -2, x.reset(4, 0));
    }

    private static void kind() {
        promise = 5;
        JoinedStores x = new JoinedStores();
        for (int k = 1; k <= 5; k++) {
            due("kind", k - 1, x.kind(1, 3, k));
        }
        due("kind", 5, x.kind(1, 3, 5));
        due("others as they were", 0, x.kind(1, 2, 4));
        due("others as they were", 0, x.kind(2, 3, 4));
        due("kind", -2, x.kind(1, 3, 6));
        due("kind", -2, x.kind(1, 3, -1));
        due("kind", -2, x.kind(3, 3, 0));
        due("kind", -2, x.kind(-1, 3, 0));
        due("kind", -2, x.kind(1, 4, 0));
        due("kind", -2, x.kind(1, -1, 0));
        due("it stays", 5, x.kind(1, 3, 0));
    }

    private static void taken() {
        promise = 6;
        JoinedStores x = new JoinedStores();
        String[] aboveAndSelf = {"0", "01", "02", "013", "024", "0135"};
        for (int own = 0; own <= 5; own++) {
            x.kind(0, 2, own);
            for (int k = 0; k <= 5; k++) {
                boolean isOne = aboveAndSelf[own].indexOf('0' + k) >= 0;
                due("taken of " + own + " for " + k, isOne ? own : -13, x.taken(0, 2, k));
            }
        }
        due("taken", -2, x.taken(0, 2, 6));
        due("taken", -2, x.taken(0, 2, -1));
        due("taken", -2, x.taken(3, 2, 5));
        due("taken", -2, x.taken(-1, 2, 5));
        due("taken", -2, x.taken(0, 4, 5));
        due("taken", -2, x.taken(0, -1, 5));
    }

    private static void worth() {
        promise = 7;
        JoinedStores x = new JoinedStores();
        int[] none = {0, 0, 0, 0, 0, 0};
        int[] values = {Integer.MIN_VALUE, Integer.MIN_VALUE, -3};
        for (int k = 0; k <= 5; k++) {
            x.kind(0, 0, k);
            due("worth of none", none[k], x.worth(2, 0, 0));
        }
        x.kind(0, 0, BAG);
        for (int v : values) {
            x.add(2, 0, 0, v);
        }
        x.add(2, 0, 1, 77);
        x.add(2, 1, 0, 77);
        long sum = 2L * Integer.MIN_VALUE - 3;
        long[] wants = {3, 3, sum, -3, -3, bits(((float) Integer.MIN_VALUE * 2 - 3) / 3)};
        for (int k = 0; k <= 5; k++) {
            x.kind(0, 0, k);
            due("worth as " + k, wants[k], x.worth(2, 0, 0));
            due("worth elsewhere", 0, x.worth(1, 0, 0));
        }
        for (int replica : WRONG_REPLICAS) {
            due("worth", ofLongs(-2), x.worth(replica, 0, 0));
            due("worth", ofLongs(-2), x.worth(0, replica, 0));
            due("worth", ofLongs(-2), x.worth(0, 0, replica));
        }
        due("worth", ofLongs(-2), x.worth(0, 3, 0));
    }

    private static void worthOfLatest() {
        promise = 7;
        JoinedStores x = new JoinedStores();
        x.kind(0, 0, LATEST);
        x.add(1, 0, 0, 11);
        x.add(3, 0, 0, 33);
        x.add(2, 0, 0, 22);
        x.add(0, 0, 1, 1);
        x.add(0, 0, 0, 5);
        tell(x, 2, 1, 0);
        tell(x, 3, 1, 0);
        due("the greatest replica of like stamps", 33, x.worth(1, 0, 0));
        due("the greatest stamp", 5, x.met(0, 0));
    }

    private static void worthOfMean() {
        promise = 7;
        JoinedStores x = new JoinedStores();
        int[] values = {16777216, 1, 1, 1, -7, 2147483647, 3};
        for (int v : values) {
            x.add(3, 0, 0, v);
        }
        x.add(0, 0, 0, -1000000007);
        x.kind(0, 0, MEAN);
        float sum = 0;
        for (int v : values) {
            sum += (float) v;
        }
        due("mean", bits(sum / 7f), x.worth(3, 0, 0));
        tell(x, 0, 3, 0);
        sum = -1000000007f;
        for (int v : values) {
            sum += (float) v;
        }
        due("mean by replicas", bits(sum / 8f), x.worth(3, 0, 0));
        due("a mean below 0", bits(-1000000007f), x.worth(0, 0, 0));
        JoinedStores y = new JoinedStores();
        y.add(0, 0, 0, 5);
        y.add(0, 0, 0, -5);
        y.kind(0, 0, MEAN);
        due("a mean of 0", 0, y.worth(0, 0, 0));
        y.kind(0, 0, BAG);
        y.add(0, 0, 0, 1);
        y.kind(0, 0, MEAN);
        due("a third", bits(1f / 3f), y.worth(0, 0, 0));
    }

    private static void told() {
        promise = 8;
        JoinedStores x = new JoinedStores();
        x.add(0, 0, 0, 1);
        x.add(0, 0, 0, 2);
        x.add(1, 0, 0, 3);
        x.take(0, 0, 0, 1);
        due("heard", 3, x.told(0, 0, 0));
        due("alive", 2, x.told(0, 0, 1));
        due("stable", 0, x.told(0, 0, 2));
        due("tags", 1, x.told(0, 0, 3));
        due("known of itself", 3, x.told(0, 0, 10));
        due("known of itself", 0, x.told(0, 0, 11));
        due("known of another", 0, x.told(0, 1, 11));
        due("of another's", 0, x.told(0, 1, 0));
        for (int replica : WRONG_REPLICAS) {
            due("told", -2, x.told(replica, 0, 0));
            due("told", -2, x.told(0, replica, 0));
        }
        int[] wrongs = {-1, 4, 9, 14, Integer.MIN_VALUE, Integer.MAX_VALUE};
        for (int what : wrongs) {
            due("told " + what, -2, x.told(0, 0, what));
        }
    }

    private static void knownAndStable() {
        promise = 8;
        JoinedStores x = new JoinedStores();
        x.add(0, 0, 0, 1);
        x.add(1, 0, 0, 2);
        tell(x, 0, 1, 1);
        due("known of the sender", 1, x.told(1, 0, 10));
        due("a sender knows nothing", 0, x.told(0, 1, 10));
        due("of what others heard it knows nothing", 0, x.told(1, 2, 10));
        x.send(1, 0, 0);
        x.add(1, 0, 0, 3);
        x.come(0);
        due("what it had heard then", 1, x.told(0, 1, 11));
        due("also of its own", 1, x.told(0, 1, 10));
        tell(x, 0, 2, 0);
        tell(x, 2, 0, 1);
        due("also by an empty parcel", 1, x.told(0, 2, 10));
        due("two of three", 0, x.told(0, 0, 2));
        tell(x, 0, 3, 0);
        x.take(0, 0, 0, 1);
        due("tags", 1, x.told(0, 0, 3));
        tell(x, 3, 0, 1);
        due("stable", 1, x.told(0, 0, 2));
        due("no tag any more", 0, x.told(0, 0, 3));
        due("still heard", 1, x.told(0, 0, 0));
        due("stable of another's", 1, x.told(0, 1, 2));
        tell(x, 1, 0, 0);
        due("known together", 3, x.told(0, 1, 11));
        x.send(1, 0, 1);
        x.lose(0);
        due("at another it is not stable", 0, x.told(1, 0, 2));
        for (int unknown = 0; unknown < 4; unknown++) {
            stableNeedsAllThree(unknown);
        }
        knownByMessagesInAnyOrder();
    }

    /** A replica hears of the one dot from all but one of the others, and at last from that one. */
    private static void stableNeedsAllThree(int unknown) {
        for (int replica = 0; replica < 4; replica++) {
            if (replica != unknown) {
                JoinedStores x = new JoinedStores();
                x.add(1, 0, 0, 1);
                tellAllRound(x);
                x.add(1, 0, 0, 2);
                for (int other = 0; other < 4; other++) {
                    if (other != 1) {
                        tell(x, 1, other, 0);
                    }
                }
                for (int other = 0; other < 4; other++) {
                    if (other != replica && other != unknown) {
                        tell(x, other, replica, 1);
                    }
                }
                due("stable at " + replica + " without " + unknown, unknown == 1 ? 3 : 1, x.told(replica, 1, 2));
                tell(x, unknown, replica, 1);
                due("stable at " + replica, 3, x.told(replica, 1, 2));
            }
        }
    }

    private static void knownByMessagesInAnyOrder() {
        JoinedStores x = new JoinedStores();
        x.add(2, 0, 0, 1);
        x.send(2, 0, 1);
        x.add(2, 0, 0, 1);
        x.send(2, 0, 1);
        x.come(1);
        due("what was sent last tells all", 3, x.told(0, 2, 12));
        due("but not its dots", 2, x.told(0, 2, 0));
        x.come(0);
        due("an older one takes nothing from it", 3, x.told(0, 2, 12));
    }

    private static void dot() {
        promise = 9;
        JoinedStores x = new JoinedStores();
        x.add(3, 2, 3, Integer.MIN_VALUE);
        x.add(3, 1, 0, 7);
        x.add(2, 0, 2, 9);
        due("value", Integer.MIN_VALUE, x.dot(3, 0, 0));
        due("stamp", 1, x.dot(3, 0, 1));
        due("object", 23, x.dot(3, 0, 2));
        due("value", 7, x.dot(3, 1, 0));
        due("stamp", 2, x.dot(3, 1, 1));
        due("object", 10, x.dot(3, 1, 2));
        due("object", 2, x.dot(2, 0, 2));
        x.take(3, 1, 0, 7);
        due("also one that is gone", 7, x.dot(3, 1, 0));
        due("not made", -12, x.dot(3, 2, 0));
        due("not made", -12, x.dot(0, 0, 0));
        due("not made", -12, x.dot(3, -1, 0));
        due("not made", -12, x.dot(3, 31, 0));
        due("not made", -12, x.dot(3, Integer.MAX_VALUE, 0));
        due("not made", -12, x.dot(3, Integer.MIN_VALUE, 0));
        due("BAD names what alone", -12, x.dot(4, 0, 0));
        due("BAD names what alone", -12, x.dot(-1, 0, 0));
        due("what", -2, x.dot(3, 0, 3));
        due("what", -2, x.dot(3, 0, -1));
        due("what ahead of -12", -2, x.dot(3, 5, 3));
    }

    private static void has() {
        promise = 10;
        JoinedStores x = new JoinedStores();
        x.add(0, 1, 1, 4);
        x.add(0, 1, 1, 4);
        x.add(0, 1, 1, 5);
        x.add(0, 1, 2, 4);
        x.add(1, 1, 1, 4);
        due("has", 2, x.has(0, 1, 1, 4));
        due("has", 1, x.has(0, 1, 1, 5));
        due("has none", 0, x.has(0, 1, 1, 6));
        due("has none", 0, x.has(2, 1, 1, 4));
        tell(x, 1, 0, 0);
        due("has", 3, x.has(0, 1, 1, 4));
        due("nothing is gone by it", 3, x.has(0, 1, 1, 4));
        x.take(0, 1, 1, 4);
        due("has", 0, x.has(0, 1, 1, 4));
        for (int replica : WRONG_REPLICAS) {
            due("has", -2, x.has(replica, 1, 1, 4));
            due("has", -2, x.has(0, replica, 1, 4));
            due("has", -2, x.has(0, 1, replica, 4));
        }
        due("has", -2, x.has(0, 3, 1, 4));
    }

    private static void sendWholeAndParcels() {
        promise = 11;
        JoinedStores x = new JoinedStores();
        x.add(0, 0, 0, 1);
        x.add(0, 0, 0, 2);
        due("send whole", 0, x.send(0, 1, 0));
        due("whole leaves the parcel", 1, x.send(0, 1, 1));
        due("an empty parcel", 2, x.send(0, 1, 1));
        due("another's parcel is as it was", 3, x.send(0, 2, 1));
        due("whole", 2, x.letter(0, 2));
        due("parcel", 2, x.letter(1, 2));
        due("empty", 0, x.letter(2, 2));
        due("another's", 2, x.letter(3, 2));
        x.take(0, 0, 0, 1);
        x.add(0, 0, 0, 3);
        due("a message is as it was sent", 2, x.letter(0, 3));
        due("send what is new", 4, x.send(0, 1, 1));
        due("gone and new", 2, x.letter(4, 2));
        due("new", 1, x.letter(4, 3));
        due("whole", 5, x.send(0, 3, 0));
        due("whole heard", 3, x.letter(5, 2));
        due("whole alive", 2, x.letter(5, 3));
    }

    private static void sendRefuses() {
        promise = 11;
        JoinedStores x = new JoinedStores();
        x.add(0, 0, 0, 1);
        for (int replica : WRONG_REPLICAS) {
            due("send", -2, x.send(replica, 0, 0));
            due("send", -2, x.send(0, replica, 0));
            due("send", -2, x.send(0, 1, replica));
        }
        due("send", -2, x.send(0, 1, 2));
        for (int replica = 0; replica < 4; replica++) {
            due("to itself", -2, x.send(replica, replica, 0));
            due("to itself", -2, x.send(replica, replica, 1));
        }
        for (int i = 0; i < 6; i++) {
            due("send", i, x.send(1, 2, 0));
        }
        due("send", -4, x.send(0, 1, 1));
        due("BAD before FULL", -2, x.send(0, 0, 1));
        due("six wait", 6, x.count(1));
        x.lose(0);
        due("send", 5, x.send(0, 1, 1));
        due("a refused parcel stays", 1, x.letter(5, 2));
    }

    private static void parcelsTellOnlyWhatIsDoneHere() {
        promise = 11;
        JoinedStores x = new JoinedStores();
        x.add(0, 0, 0, 1);
        tell(x, 0, 1, 1);
        x.send(1, 2, 1);
        due("what came isn't in parcels", 0, x.letter(0, 2));
        x.take(1, 0, 0, 1);
        x.send(1, 2, 1);
        due("what was done is", 1, x.letter(1, 2));
        x.add(0, 0, 1, 8);
        x.take(0, 0, 1, 8);
        x.send(0, 3, 1);
        due("new and then gone: heard", 2, x.letter(2, 2));
        due("new and then gone: alive", 1, x.letter(2, 3));
    }

    private static void come() {
        promise = 12;
        JoinedStores x = new JoinedStores();
        x.add(0, 0, 0, 1);
        x.add(0, 0, 0, 2);
        x.add(1, 0, 0, 3);
        x.send(0, 1, 0);
        x.twice(0);
        x.send(1, 2, 0);
        due("come", 2, x.come(0));
        due("again", 0, x.come(0));
        due("worth", 3, x.worth(1, 0, 0));
        due("what was sent ahead of it", 1, x.come(0));
        due("none wait", 0, x.count(1));
        due("the sender is as it was", 2, x.worth(0, 0, 0));
        due("come", -2, x.come(0));
        x.send(0, 1, 0);
        due("come", -2, x.come(1));
        due("come", -2, x.come(-1));
        due("come", -2, x.come(Integer.MAX_VALUE));
        due("come", -2, x.come(Integer.MIN_VALUE));
        due("it waits still", 1, x.count(1));
        x.send(2, 3, 0);
        x.send(3, 2, 0);
        due("come of the middle", 1, x.come(1));
        due("those ahead stay", 0, x.letter(0, 0));
        due("those behind are one less", 3, x.letter(1, 0));
    }

    private static void addWinsOverTake() {
        promise = 12;
        JoinedStores x = new JoinedStores();
        x.kind(0, 0, SET);
        x.add(0, 0, 0, 5);
        tellAllRound(x);
        x.take(1, 0, 0, 5);
        x.add(2, 0, 0, 5);
        tellAllRound(x);
        for (int replica = 0; replica < 4; replica++) {
            due("add wins", 1, x.worth(replica, 0, 0));
            due("the one is gone", 0, x.told(replica, 0, 1));
            due("the other is alive", 1, x.told(replica, 2, 1));
        }
        x.take(3, 0, 0, 5);
        x.send(0, 3, 0);
        x.come(0);
        due("what is gone doesn't come again", 0, x.worth(3, 0, 0));
        tell(x, 3, 0, 1);
        due("and goes there", 0, x.worth(0, 0, 0));
    }

    private static void lose() {
        promise = 13;
        JoinedStores x = new JoinedStores();
        x.add(0, 0, 0, 1);
        x.send(0, 1, 1);
        x.send(0, 2, 1);
        x.send(0, 3, 1);
        due("lose", 1, x.lose(1));
        due("two wait", 2, x.count(1));
        due("those behind are one less", 3, x.letter(1, 1));
        due("it didn't come", 0, x.told(2, 0, 0));
        due("nor is anything known", 0, x.told(2, 0, 10));
        due("lose", -2, x.lose(2));
        due("lose", -2, x.lose(-1));
        due("lose", -2, x.lose(Integer.MAX_VALUE));
        x.send(0, 2, 1);
        due("the parcel is not given back", 0, x.letter(2, 2));
    }

    private static void twice() {
        promise = 14;
        JoinedStores x = new JoinedStores();
        x.add(0, 0, 0, 1);
        x.send(0, 1, 1);
        x.send(2, 3, 0);
        due("twice", 2, x.twice(0));
        due("from", 0, x.letter(2, 0));
        due("to", 1, x.letter(2, 1));
        due("heard", 1, x.letter(2, 2));
        due("alive", 1, x.letter(2, 3));
        x.lose(0);
        due("the other one comes", 1, x.come(1));
        due("with what its sender had heard", 1, x.told(1, 0, 10));
        due("twice", -2, x.twice(1));
        due("twice", -2, x.twice(-1));
        for (int i = 1; i < 6; i++) {
            due("twice", i, x.twice(i - 1));
        }
        due("twice", -4, x.twice(0));
        due("BAD before FULL", -2, x.twice(6));
        due("six wait", 6, x.count(1));
    }

    private static void letter() {
        promise = 15;
        JoinedStores x = new JoinedStores();
        x.add(3, 0, 0, 1);
        x.add(3, 0, 0, 2);
        x.add(3, 1, 0, 2);
        x.reset(3, 0);
        x.send(3, 2, 0);
        due("from", 3, x.letter(0, 0));
        due("to", 2, x.letter(0, 1));
        due("heard", 3, x.letter(0, 2));
        due("alive", 1, x.letter(0, 3));
        due("letter", -2, x.letter(0, 4));
        due("letter", -2, x.letter(0, -1));
        due("letter", -2, x.letter(1, 0));
        due("letter", -2, x.letter(-1, 0));
        due("letter", -2, x.letter(6, 0));
        due("letter", -2, x.letter(Integer.MAX_VALUE, 0));
    }

    private static void met() {
        promise = 16;
        JoinedStores x = new JoinedStores();
        x.kind(2, 3, COUNT);
        for (int replica = 0; replica < 4; replica++) {
            x.add(replica, 2, 3, Integer.MAX_VALUE);
        }
        due("met", 4L * Integer.MAX_VALUE, x.met(2, 3));
        tell(x, 0, 1, 0);
        due("met", 4L * Integer.MAX_VALUE, x.met(2, 3));
        x.take(1, 2, 3, Integer.MAX_VALUE);
        due("what one took is gone", 2L * Integer.MAX_VALUE, x.met(2, 3));
        due("in thought alone", Integer.MAX_VALUE, x.worth(0, 2, 3));
        due("other objects", 0, x.met(2, 2));
        due("met", ofLongs(-2), x.met(3, 0));
        due("met", ofLongs(-2), x.met(-1, 0));
        due("met", ofLongs(-2), x.met(0, 4));
        due("met", ofLongs(-2), x.met(0, -1));
    }

    private static void apart() {
        promise = 17;
        JoinedStores x = new JoinedStores();
        x.add(0, 0, 0, 1);
        x.add(0, 0, 0, 2);
        due("ahead", 1, x.apart(0, 1, 0));
        due("behind", 0, x.apart(1, 0, 0));
        due("not alike", 0, x.apart(0, 1, 1));
        due("heard", 2, x.apart(0, 1, 2));
        due("alive", 2, x.apart(1, 0, 3));
        due("two of no dots", 1, x.apart(1, 2, 1));
        tell(x, 0, 1, 0);
        due("alike", 1, x.apart(0, 1, 1));
        due("alike", 1, x.apart(1, 0, 1));
        x.take(1, 0, 0, 1);
        due("who took is ahead", 1, x.apart(1, 0, 0));
        due("who did not is behind", 0, x.apart(0, 1, 0));
        due("not alike", 0, x.apart(0, 1, 1));
        due("heard alike", 0, x.apart(0, 1, 2));
        due("alive", 1, x.apart(0, 1, 3));
        x.add(0, 0, 0, 9);
        due("neither", 0, x.apart(0, 1, 0));
        due("neither", 0, x.apart(1, 0, 0));
        due("alive", 2, x.apart(0, 1, 3));
        due("in thought alone", 3, x.worth(0, 0, 0));
        due("of itself: joined it is as it was", 1, x.apart(2, 2, 0));
        due("of itself", 0, x.apart(0, 0, 2));
        for (int replica : WRONG_REPLICAS) {
            due("apart", -2, x.apart(replica, 0, 0));
            due("apart", -2, x.apart(0, replica, 0));
            due("apart", -2, x.apart(0, 1, replica));
        }
    }

    private static void needs() {
        promise = 18;
        JoinedStores x = new JoinedStores();
        x.kind(0, 0, COUNT);
        x.add(1, 0, 0, 1);
        x.send(1, 0, 1);
        x.add(1, 0, 0, 2);
        x.send(1, 0, 1);
        x.add(2, 0, 0, 3);
        x.send(2, 3, 0);
        x.send(2, 0, 1);
        x.twice(3);
        due("as it is", 0, x.needs(0, 0, 0, 0L, 0));
        due("as it is", 0, x.needs(0, 0, 0, 0L, 1));
        due("one: the least", 8, x.needs(0, 0, 0, 3L, 1));
        due("one", 1, x.needs(0, 0, 0, 3L, 0));
        due("two", 2, x.needs(0, 0, 0, 5L, 0));
        due("two", 0b1010, x.needs(0, 0, 0, 5L, 1));
        due("three", 0b1011, x.needs(0, 0, 0, 6L, 1));
        due("three", 3, x.needs(0, 0, 0, 6L, 0));
        due("none", -1, x.needs(0, 0, 0, 7L, 0));
        due("none", -1, x.needs(0, 0, 0, 7L, 1));
        due("a long", -1, x.needs(0, 0, 0, 3L + (1L << 32), 1));
        due("messages to it alone", -1, x.needs(1, 0, 0, 6L, 1));
        due("another's message", 0b100, x.needs(3, 0, 0, 3L, 1));
        due("in thought alone", 0, x.worth(0, 0, 0));
        for (int replica : WRONG_REPLICAS) {
            due("needs", -2, x.needs(replica, 0, 0, 0L, 0));
            due("needs", -2, x.needs(0, replica, 0, 0L, 0));
            due("needs", -2, x.needs(0, 0, replica, 0L, 0));
            due("needs", -2, x.needs(0, 0, 0, 0L, replica));
        }
        due("needs", -2, x.needs(0, 3, 0, 0L, 0));
        due("needs", -2, x.needs(0, 0, 0, 0L, 2));
        x.kind(0, 0, MEAN);
        due("below 0 of a mean", -1, x.needs(0, 0, 0, bits(-2f), 0));
        x.add(3, 0, 1, -4);
        x.kind(0, 1, MEAN);
        x.send(3, 0, 1);
        due("a mean below 0 as a long", 0b100000, x.needs(0, 0, 1, (long) bits(-4f), 1));
    }

    private static void drawn() {
        promise = 19;
        JoinedStores x = new JoinedStores();
        due("all alike", 4, x.drawn(5, 0));
        x.add(0, 0, 0, 1);
        for (int seed = -40; seed < 40; seed++) {
            for (int n = 0; n <= 20; n += 4) {
                due("drawn " + seed + ", " + n, whoHeardOfOne(seed, n), x.drawn(seed, n));
            }
        }
        due("seeds at the ends", whoHeardOfOne(Integer.MAX_VALUE, 20), x.drawn(Integer.MAX_VALUE, 20));
        due("seeds at the ends", whoHeardOfOne(Integer.MIN_VALUE, 20), x.drawn(Integer.MIN_VALUE, 20));
        due("in thought alone", 0, x.worth(1, 0, 0) + x.worth(2, 0, 0) + x.worth(3, 0, 0));
        due("drawn", -2, x.drawn(5, -1));
        due("drawn", -2, x.drawn(5, 21));
        due("drawn", -2, x.drawn(5, Integer.MAX_VALUE));
        x.add(1, 0, 0, 1);
        due("none has heard all", 0, x.drawn(5, 0));
    }

    /** How many know a thing after n tellings that replica 0 alone knew. */
    private static int whoHeardOfOne(int seed, int n) {
        boolean[] knows = {true, false, false, false};
        int z = seed;
        for (int i = 0; i < n; i++) {
            z = z * 1103515245 + 12345;
            int from = (z >>> 9) % 4;
            z = z * 1103515245 + 12345;
            int to = (z >>> 9) % 4;
            knows[to] |= knows[from];
        }
        int many = 0;
        for (boolean one : knows) {
            many += one ? 1 : 0;
        }
        return many;
    }

    private static void chance() {
        promise = 20;
        JoinedStores x = new JoinedStores();
        due("surely", 1, x.chance(3, 6, 0));
        due("surely", 1, x.chance(3, 6, 1));
        x.add(0, 0, 0, 1);
        for (int seed = -20; seed < 20; seed++) {
            for (int m = 1; m <= 8; m++) {
                long good = 0;
                for (int i = 0; i < m; i++) {
                    good += whoHeardOfOne(seed + i, 8) == 4 ? 1 : 0;
                }
                long common = java.math.BigInteger.valueOf(good).gcd(java.math.BigInteger.valueOf(m)).longValue();
                due("above", good / common, x.chance(seed, m, 0));
                due("below", m / common, x.chance(seed, m, 1));
            }
        }
        int last = Integer.MAX_VALUE;
        int good = (whoHeardOfOne(last, 8) == 4 ? 1 : 0) + (whoHeardOfOne(last + 1, 8) == 4 ? 1 : 0);
        due("seeds go round", good == 2 ? 1 : good, x.chance(last, 2, 0));
        due("chance", -2, x.chance(3, 0, 0));
        due("chance", -2, x.chance(3, 9, 0));
        due("chance", -2, x.chance(3, -1, 0));
        due("chance", -2, x.chance(3, 1, 2));
        due("chance", -2, x.chance(3, 1, -1));
        due("in thought alone", 0, x.worth(1, 0, 0) + x.worth(2, 0, 0) + x.worth(3, 0, 0));
        JoinedStores y = new JoinedStores();
        y.add(0, 0, 0, 1);
        int never = 0;
        while (whoHeardOfOne(never, 8) == 4) {
            never++;
        }
        due("none above", 0, y.chance(never, 1, 0));
        due("one below", 1, y.chance(never, 1, 1));
    }

    private static void tells() {
        promise = 21;
        JoinedStores x = new JoinedStores();
        x.add(0, 2, 0, 6);
        x.add(0, 2, 0, -5);
        x.add(1, 2, 1, 4);
        x.send(0, 1, 0);
        x.send(0, 2, 0);
        x.send(1, 0, 0);
        x.twice(2);
        x.sheet(0, 0, 2);
        x.put(0, 0, 2);
        x.put(0, 1, 1);
        due("first otherwise at 0", 1, x.tells(0, 0, 2, 0));
        due("first otherwise at 1", 0, x.tells(0, 1, 2, 0));
        due("replicas", 0, x.tells(0, 0, 2, 1));
        due("messages", 0b1100, x.tells(0, 0, 2, 3));
        due("messages", 0b0001, x.tells(0, 1, 2, 3));
        due("messages", 0, x.tells(0, 2, 2, 3));
        due("kinds", 0, x.tells(0, 0, 2, 2));
        x.come(0);
        due("none is otherwise", -1, x.tells(0, 1, 2, 0));
        due("replicas", 0b0010, x.tells(0, 3, 2, 1));
        due("kinds that count", 0b000011, x.tells(0, 1, 2, 2));
        due("every message tells it that told already", 0, x.tells(0, 1, 2, 3));
        x.put(0, 0, 1);
        due("a sum of 1", 0b000100, x.tells(0, 1, 2, 2));
        x.put(0, 0, -5);
        due("latest", 0b001000, x.tells(0, 1, 2, 2));
        x.put(0, 0, 6);
        due("most", 0b010000, x.tells(0, 1, 2, 2));
        x.sheet(1, 1, 1);
        x.put(1, 0, 4);
        due("a mean of a half, in floats", 0b100000, x.tells(1, 1, 2, 2));
        x.kind(2, 0, MEAN);
        due("none is otherwise", -1, x.tells(1, 1, 2, 0));
        due("replicas", 0b0011, x.tells(1, 1, 2, 1));
        x.kind(2, 0, COUNT);
        x.add(1, 2, 0, Integer.MAX_VALUE);
        x.put(0, 0, Integer.MIN_VALUE);
        due("the lowest 32 bits", -1, x.tells(0, 1, 2, 0));
        x.sheet(0, 0, 4);
        due("all four objects of a room of none", -1, x.tells(0, 3, 0, 0));
        x.put(0, 3, 1);
        due("the last", 3, x.tells(0, 3, 0, 0));
        x.sheet(0, 0, 0);
        due("of nothing none is otherwise", -1, x.tells(0, 1, 2, 0));
        due("all replicas", 15, x.tells(0, 1, 2, 1));
        due("all messages to it", 0b110, x.tells(0, 0, 2, 3));
    }

    private static void tellsRefuses() {
        promise = 21;
        JoinedStores x = new JoinedStores();
        due("missing", -11, x.tells(0, 0, 0, 0));
        due("missing, ahead of nothing", -11, x.tells(0, 0, 0, 2));
        for (int replica : WRONG_REPLICAS) {
            due("BAD ahead of missing", -2, x.tells(replica, 0, 0, 0));
            due("BAD ahead of missing", -2, x.tells(0, replica, 0, 0));
            due("BAD ahead of missing", -2, x.tells(0, 0, replica, 0));
            due("BAD ahead of missing", -2, x.tells(0, 0, 0, replica));
        }
        due("BAD room", -2, x.tells(0, 0, 3, 0));
        x.sheet(0, 0, 5);
        for (int what = 0; what < 4; what++) {
            due("too many", -2, x.tells(0, 0, 0, what));
        }
        x.sheet(0, 1, 0);
        due("kinds of nothing", -2, x.tells(0, 0, 0, 2));
        x.sheet(0, 1, 4);
        due("four", 63, x.tells(0, 0, 0, 2));
    }

    private static void film() {
        promise = 22;
        JoinedStores x = new JoinedStores();
        x.kind(1, 0, COUNT);
        x.add(2, 1, 0, Integer.MAX_VALUE);
        x.add(2, 1, 0, Integer.MAX_VALUE);
        x.add(2, 1, 1, 3);
        x.add(2, 1, 3, 3);
        x.sheet(3, 1, 40);
        due("film", 4, x.film(3, 2, 1, 4));
        due("lowest 32 bits", -2, x.item(3, 0));
        due("item", 1, x.item(3, 1));
        due("item", 0, x.item(3, 2));
        due("item", 1, x.item(3, 3));
        due("a row of four", ofLongs(-12), x.item(3, 4));
        x.put(3, 0, 8);
        due("ints", 8, x.item(3, 0));
        x.add(1, 2, 3, 7);
        due("film of the last room", 4, x.film(2, 1, 2, 4));
        due("the last object", 1, x.item(2, 3));
        due("film of a missing one", 2, x.film(0, 2, 1, 2));
        due("film of nothing", 0, x.film(1, 2, 1, 0));
        due("a row of nothing", ofLongs(-12), x.item(1, 0));
        for (int replica : WRONG_REPLICAS) {
            due("film", -2, x.film(replica, 2, 1, 4));
            due("film", -2, x.film(3, replica, 1, 4));
            due("film", -2, x.film(3, 2, replica, 4));
        }
        due("film", -2, x.film(3, 2, 3, 4));
        due("film", -2, x.film(3, 2, 1, 5));
        due("film", -2, x.film(3, 2, 1, -1));
        due("as it was", 8, x.item(3, 0));
    }

    private static void imageAndBack() {
        promise = 23;
        JoinedStores x = new JoinedStores();
        due("image", 0, x.image());
        x.send(0, 1, 0);
        x.send(0, 2, 0);
        due("image", 2, x.image());
        x.lose(0);
        promise = 24;
        due("back", 2, x.back());
        due("count", 2, x.count(1));
        x.come(0);
        x.come(0);
        due("back again", 2, x.back());
        x.lose(1);
        x.image();
        x.send(3, 0, 0);
        due("to the newest", 1, x.back());
        due("the first waits", 1, x.letter(0, 1));
        due("STATE", -3, new JoinedStores().back());
    }

    private static void imageKeepsAll() {
        promise = 24;
        JoinedStores x = new JoinedStores();
        x.kind(0, 0, SET);
        x.add(0, 0, 0, 5);
        tell(x, 0, 1, 1);
        x.add(0, 0, 1, 6);
        x.send(1, 2, 0);
        x.image();
        x.kind(0, 0, COUNT);
        due("made anew", 2, x.add(0, 2, 2, 9));
        x.add(1, 0, 0, 5);
        x.send(0, 1, 1);
        x.come(1);
        x.come(0);
        x.send(2, 3, 0);
        x.sheet(0, 0, 1);
        x.put(0, 0, 3);
        due("back", 1, x.back());
        due("sheets stay", 3, x.item(0, 0));
        due("kinds", SET, x.taken(0, 0, SET));
        due("made", 2, x.count(0));
        due("a dot that isn't made any more", -12, x.dot(0, 2, 0));
        due("stores", 3, x.told(0, 0, 0));
        due("stores", 1, x.told(1, 0, 0));
        due("stores", 0, x.told(2, 0, 0));
        due("known", 1, x.told(1, 0, 10));
        due("known", 0, x.told(2, 1, 10));
        due("messages", 2, x.letter(0, 1));
        due("messages", 1, x.letter(0, 2));
        due("parcels", 1, x.send(0, 1, 1));
        due("parcels", 1, x.letter(1, 2));
        due("numbers go on from there", 2, x.add(0, 1, 3, 7));
        due("value", 7, x.dot(0, 2, 0));
        due("stamp", 3, x.dot(0, 2, 1));
        due("object", 13, x.dot(0, 2, 2));
        x.come(0);
        due("what the message's sender had heard", 1, x.told(2, 1, 10));
        x.kind(1, 3, COUNT);
        due("met", 7, x.met(1, 3));
        x.back();
        due("met again", 0, x.met(1, 3));
        due("alike what all of them met to then", 1, x.count(2));
        due("alive in all met", 2, x.count(3));
    }

    private static void count() {
        promise = 25;
        JoinedStores x = new JoinedStores();
        x.add(0, 0, 0, 1);
        x.add(0, 0, 1, 2);
        x.add(3, 2, 3, 3);
        x.take(0, 0, 0, 1);
        due("made", 3, x.count(0));
        due("waiting", 0, x.count(1));
        due("alike", 0, x.count(2));
        due("alive in all met", 2, x.count(3));
        due("tags", 1, x.count(4));
        x.send(0, 3, 0);
        x.send(0, 1, 0);
        due("waiting", 2, x.count(1));
        x.come(0);
        due("alike", 1, x.count(2));
        due("tags together", 2, x.count(4));
        x.lose(0);
        due("waiting", 0, x.count(1));
        tellAllRound(x);
        due("alike", 4, x.count(2));
        due("none is a tag that all know of", 0, x.count(4));
        due("made", 3, x.count(0));
        x.add(1, 1, 1, 1);
        due("alive in all met, anew", 3, x.count(3));
        due("count", -2, x.count(5));
        due("count", -2, x.count(-1));
        due("count", -2, x.count(Integer.MAX_VALUE));
        due("count", -2, x.count(Integer.MIN_VALUE));
    }

    private static void sheet() {
        promise = 26;
        JoinedStores x = new JoinedStores();
        due("sheet", 1, x.sheet(0, 0, 40));
        due("all 0", 0, x.item(0, 39));
        due("outside", ofLongs(-12), x.item(0, 40));
        x.put(0, 39, 5);
        x.put(0, 0, 5);
        due("anew", 1, x.sheet(0, 0, 40));
        due("all 0", 0, x.item(0, 39) + x.item(0, 0));
        due("floats", 1, x.sheet(0, 1, 3));
        due("a row of three", ofLongs(-12), x.item(0, 3));
        due("a row of none", 1, x.sheet(3, 1, 0));
        due("it is there", ofLongs(-12), x.item(3, 0));
        due("too many", -2, x.sheet(0, 0, 41));
        due("too many", -2, x.sheet(0, 1, Integer.MAX_VALUE));
        due("below 0", -14, x.sheet(0, 0, -1));
        due("below 0", -14, x.sheet(0, 1, Integer.MIN_VALUE));
        due("BAD ahead of -14", -2, x.sheet(0, 2, -1));
        due("BAD ahead of -14", -2, x.sheet(4, 0, -1));
        due("sheet", -2, x.sheet(-1, 0, 1));
        due("sort", -2, x.sheet(0, -2, 1));
        due("no such sheet, of sort -1", -2, x.sheet(4, -1, 1));
        due("as it was", 0, x.item(0, 2));
        due("missing", 1, x.sheet(0, -1, -5));
        due("it is", ofLongs(-11), x.item(0, 0));
        due("missing", 1, x.sheet(3, -1, 99));
        due("it is", ofLongs(-11), x.item(3, 0));
    }

    private static void put() {
        promise = 27;
        JoinedStores x = new JoinedStores();
        x.sheet(1, 0, 2);
        x.sheet(2, 1, 2);
        int[] values = {0, 1, -1, 7, 8, 16777217, -16777219, 33554435, Integer.MAX_VALUE, Integer.MIN_VALUE, 12345679};
        for (int v : values) {
            due("put", 1, x.put(1, 1, v));
            due("int", v, x.item(1, 1));
            due("put", 1, x.put(2, 1, v));
            due("float of " + v, bits((float) v / 8), x.item(2, 1));
            due("the other one", 0, x.item(1, 0) + x.item(2, 0));
        }
        due("put", -2, x.put(-1, 0, 1));
        due("put", -2, x.put(4, 0, 1));
        due("put", -11, x.put(0, 0, 1));
        due("missing ahead of outside", -11, x.put(0, -1, 1));
        due("put", -12, x.put(1, 2, 1));
        due("put", -12, x.put(1, -1, 1));
        due("put", -12, x.put(1, Integer.MAX_VALUE, 1));
    }

    private static void item() {
        promise = 28;
        JoinedStores x = new JoinedStores();
        x.sheet(1, 0, 3);
        x.put(1, 2, Integer.MIN_VALUE);
        due("item", Integer.MIN_VALUE, x.item(1, 2));
        x.sheet(2, 1, 3);
        x.put(2, 0, -8);
        due("a float below 0", bits(-1f), x.item(2, 0));
        due("item", ofLongs(-2), x.item(-1, 0));
        due("item", ofLongs(-2), x.item(4, 0));
        due("item", ofLongs(-11), x.item(0, -1));
        due("item", ofLongs(-12), x.item(1, -1));
        due("item", ofLongs(-12), x.item(1, 3));
        due("item", ofLongs(-12), x.item(1, Integer.MIN_VALUE));
    }

    private static void copy() {
        promise = 29;
        JoinedStores x = new JoinedStores();
        x.sheet(0, 0, 5);
        x.sheet(1, 0, 3);
        x.sheet(2, 1, 3);
        for (int i = 0; i < 5; i++) {
            x.put(0, i, i + 1);
        }
        due("copy", 2, x.copy(0, 3, 1, 1, 2));
        rowIs(x, 1, 0, 4, 5);
        rowIs(x, 0, 1, 2, 3, 4, 5);
        due("up in itself", 4, x.copy(0, 0, 0, 1, 4));
        rowIs(x, 0, 1, 1, 2, 3, 4);
        due("down in itself", 3, x.copy(0, 2, 0, 0, 3));
        rowIs(x, 0, 2, 3, 4, 3, 4);
        due("none", 0, x.copy(0, 5, 1, 3, 0));
        x.sheet(3, 0, 5);
        due("all", 5, x.copy(0, 0, 3, 0, 5));
        rowIs(x, 3, 2, 3, 4, 3, 4);
        x.sheet(3, -1, 0);
        due("BAD ahead of missing", -2, x.copy(3, 0, 4, 0, 1));
        due("BAD ahead of missing", -2, x.copy(-1, 0, 3, 0, 1));
        due("missing", -11, x.copy(3, 0, 0, 0, 1));
        due("missing", -11, x.copy(2, 9, 3, 0, 1));
        due("unlike, ahead of outside", -13, x.copy(0, 0, 2, 0, 9));
        due("unlike", -13, x.copy(2, 0, 0, 0, 0));
        due("outside", -12, x.copy(0, 0, 1, 0, 4));
        due("outside", -12, x.copy(1, 0, 0, 2, 4));
        due("outside", -12, x.copy(0, 3, 1, 0, 3));
        due("outside", -12, x.copy(0, 0, 1, 1, 3));
        due("outside", -12, x.copy(0, -1, 1, 0, 1));
        due("outside", -12, x.copy(0, 0, 1, -1, 1));
        due("below 0", -12, x.copy(0, 0, 1, 0, -1));
        due("outside", -12, x.copy(0, 1, 1, 0, Integer.MAX_VALUE));
        due("outside", -12, x.copy(0, Integer.MAX_VALUE, 1, 0, 1));
        due("outside", -12, x.copy(0, 0, 1, 0, Integer.MIN_VALUE));
        rowIs(x, 1, 0, 4, 5);
        x.put(2, 0, 3);
        due("floats", 1, x.copy(2, 0, 2, 2, 1));
        due("floats", bits(0.375f), x.item(2, 2));
    }

    private static void rowIs(JoinedStores x, int sheet, int... wants) {
        for (int i = 0; i < wants.length; i++) {
            due("item " + i, wants[i], x.item(sheet, i));
        }
        due("no more", ofLongs(-12), x.item(sheet, wants.length));
    }
}
