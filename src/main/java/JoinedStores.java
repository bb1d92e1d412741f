/**
 * Up to four replicas of rooms of objects, changed apart and joined by messages.
 * Words such as dot, store, parcel, stable and tag mean what the document's Terms say.
 */
public final class JoinedStores {
    public static final int NONE = -1, BAD = -2, STATE = -3, FULL = -4;

    private static final int MISSING = -11, OUTSIDE = -12, UNLIKE = -13, BELOW_ZERO = -14;
    private static final long OF_LONGS = -1000000000000L;

    private static final int REPLICAS = 4, ROOMS = 3, NAMES = 4, NUMBERS = 31;
    private static final int MESSAGES = 6, SHEETS = 4, ITEMS = 40, TOLD_ITEMS = 4;
    private static final int DRAWS = 20, SEEDS = 8, DRAWS_OF_CHANCE = 8;
    private static final int INTS = 0, FLOATS = 1;
    private static final int LEAST_INT = -2147483648, GREATEST_INT = 2147483647;

    private static final int BAG = 0, SET = 1, COUNT = 2, LATEST = 3, MOST = 4, MEAN = 5, KINDS = 6;
    private static final int[] UNDER = {NONE, BAG, BAG, SET, COUNT, LATEST};

    private final Network now = new Network();
    private final Network kept = new Network();
    private boolean hasImage;
    private final Sheet[] sheets = new Sheet[SHEETS];

    // Rows for thinking, made once because what a run makes is counted.
    private final Store fresh = new Store();
    private final Store all = new Store();
    private final Store thought = new Store();
    private final Store[] thoughts = new Store[REPLICAS];

    public JoinedStores() {
        for (int i = 0; i < SHEETS; i++) {
            sheets[i] = new Sheet();
        }
        for (int i = 0; i < REPLICAS; i++) {
            thoughts[i] = new Store();
        }
    }

    // ---- at a replica

    public int add(int replica, int room, int name, int v) {
        if (!isReplica(replica) || !isObject(room, name)) {
            return BAD;
        }
        if (now.dots.made[replica] >= NUMBERS) {
            return FULL;
        }
        int object = objectAt(room, name);
        fresh.empty();
        markGoneByAdding(now.stores[replica], object, v);
        int number = now.dots.make(replica, now.stores[replica], object, v);
        fresh.hear(replica, number);
        fresh.enliven(replica, number);
        now.joinWithNew(replica, fresh);
        return number;
    }

    public int take(int replica, int room, int name, int v) {
        if (!isReplica(replica) || !isObject(room, name)) {
            return BAD;
        }
        fresh.empty();
        now.dots.markOfValue(now.stores[replica], objectAt(room, name), v, fresh);
        now.joinWithNew(replica, fresh);
        return fresh.heardInAll();
    }

    public int reset(int replica, int room) {
        if (!isReplica(replica) || !isRoom(room)) {
            return BAD;
        }
        fresh.empty();
        for (int name = 0; name < NAMES; name++) {
            now.dots.markAll(now.stores[replica], objectAt(room, name), fresh);
        }
        now.joinWithNew(replica, fresh);
        return fresh.heardInAll();
    }

    public int kind(int room, int name, int k) {
        if (!isObject(room, name) || !isKind(k)) {
            return BAD;
        }
        int object = objectAt(room, name);
        int was = now.kinds[object];
        now.kinds[object] = k;
        return was;
    }

    public int taken(int room, int name, int k) {
        if (!isObject(room, name) || !isKind(k)) {
            return BAD;
        }
        int own = now.kinds[objectAt(room, name)];
        return isOrIsUnder(own, k) ? own : UNLIKE;
    }

    public long worth(int replica, int room, int name) {
        if (!isReplica(replica) || !isObject(room, name)) {
            return OF_LONGS + BAD;
        }
        return now.worthIn(now.stores[replica], objectAt(room, name));
    }

    public int told(int replica, int of, int what) {
        if (!isReplica(replica) || !isReplica(of)) {
            return BAD;
        }
        switch (what) {
            case 0:
                return now.stores[replica].heard[of];
            case 1:
                return now.stores[replica].alive[of];
            case 2:
                return now.stableAt(replica, of);
            case 3:
                return now.tagsAt(replica, of);
            default:
                return what >= 10 && isReplica(what - 10) ? now.knownBy(replica, of, what - 10) : BAD;
        }
    }

    public int dot(int replica, int number, int what) {
        if (what < 0 || what > 2) {
            return BAD;
        }
        Dots dots = now.dots;
        if (!isReplica(replica) || number < 0 || number >= dots.made[replica]) {
            return OUTSIDE;
        }
        int place = placeOf(replica, number);
        if (what == 0) {
            return dots.values[place];
        }
        if (what == 1) {
            return dots.stamps[place];
        }
        return 10 * (dots.objects[place] / NAMES) + dots.objects[place] % NAMES;
    }

    public int has(int replica, int room, int name, int v) {
        if (!isReplica(replica) || !isObject(room, name)) {
            return BAD;
        }
        fresh.empty();
        now.dots.markOfValue(now.stores[replica], objectAt(room, name), v, fresh);
        return fresh.heardInAll();
    }

    // ---- messages

    public int send(int from, int to, int what) {
        if (!isReplica(from) || !isReplica(to) || from == to || what < 0 || what > 1) {
            return BAD;
        }
        if (now.waits >= MESSAGES) {
            return FULL;
        }
        Store parcel = now.parcels[pairOf(from, to)];
        now.post(from, to, what == 0 ? now.stores[from] : parcel);
        if (what == 1) {
            parcel.empty();
        }
        return now.waits - 1;
    }

    public int come(int message) {
        if (!isMessage(message)) {
            return BAD;
        }
        Message letter = now.waiting[message];
        Store store = now.stores[letter.to];
        int before = store.heardInAll();
        store.join(letter.store);
        now.learn(letter);
        now.drop(message);
        return store.heardInAll() - before;
    }

    public int lose(int message) {
        if (!isMessage(message)) {
            return BAD;
        }
        now.drop(message);
        return 1;
    }

    public int twice(int message) {
        if (!isMessage(message)) {
            return BAD;
        }
        if (now.waits >= MESSAGES) {
            return FULL;
        }
        now.waiting[now.waits].become(now.waiting[message]);
        now.waits++;
        return now.waits - 1;
    }

    public int letter(int message, int what) {
        if (!isMessage(message)) {
            return BAD;
        }
        Message letter = now.waiting[message];
        switch (what) {
            case 0:
                return letter.from;
            case 1:
                return letter.to;
            case 2:
                return letter.store.heardInAll();
            case 3:
                return letter.store.aliveInAll();
            default:
                return BAD;
        }
    }

    // ---- what would be

    public long met(int room, int name) {
        if (!isObject(room, name)) {
            return OF_LONGS + BAD;
        }
        meet(now.stores);
        return now.worthIn(all, objectAt(room, name));
    }

    public int apart(int one, int other, int what) {
        if (!isReplica(one) || !isReplica(other)) {
            return BAD;
        }
        Store its = now.stores[one];
        Store others = now.stores[other];
        switch (what) {
            case 0:
                return isAhead(its, others) ? 1 : 0;
            case 1:
                return isAhead(its, others) && isAhead(others, its) ? 1 : 0;
            case 2:
                return otherwise(its.heard, others.heard);
            case 3:
                return otherwise(its.alive, others.alive);
            default:
                return BAD;
        }
    }

    public int needs(int replica, int room, int name, long w, int what) {
        if (!isReplica(replica) || !isObject(room, name) || what < 0 || what > 1) {
            return BAD;
        }
        int set = fewestToTell(replica, objectAt(room, name), w);
        if (set == NONE) {
            return NONE;
        }
        return what == 0 ? Integer.bitCount(set) : set;
    }

    public int drawn(int seed, int n) {
        if (n < 0 || n > DRAWS) {
            return BAD;
        }
        return alikeAfterDrawing(seed, n);
    }

    public int chance(int seed, int m, int part) {
        if (m < 1 || m > SEEDS || part < 0 || part > 1) {
            return BAD;
        }
        int good = 0;
        for (int i = 0; i < m; i++) {
            if (alikeAfterDrawing(seed + i, DRAWS_OF_CHANCE) == REPLICAS) {
                good++;
            }
        }
        return (part == 0 ? good : m) / greatestDivisorOfBoth(m, good);
    }

    // ---- what was told

    public int tells(int sheet, int replica, int room, int what) {
        if (!isSheet(sheet) || !isReplica(replica) || !isRoom(room) || what < 0 || what > 3) {
            return BAD;
        }
        Sheet row = sheets[sheet];
        if (row.isMissing()) {
            return MISSING;
        }
        if (row.length > TOLD_ITEMS || what == 2 && row.length == 0) {
            return BAD;
        }
        if (what == 0) {
            return firstOtherwise(row, now.stores[replica], room, kindOfFirst(room));
        }
        if (what == 1) {
            return replicasThatTell(row, room);
        }
        return what == 2 ? kindsThatTell(row, replica, room) : messagesThatTell(row, replica, room);
    }

    public int film(int sheet, int replica, int room, int n) {
        if (!isSheet(sheet) || !isReplica(replica) || !isRoom(room) || n < 0 || n > TOLD_ITEMS) {
            return BAD;
        }
        Sheet row = sheets[sheet];
        row.become(INTS, n);
        for (int name = 0; name < n; name++) {
            row.items[name] = (int) now.worthIn(now.stores[replica], objectAt(room, name));
        }
        return n;
    }

    public int image() {
        kept.become(now);
        hasImage = true;
        return now.waits;
    }

    public int back() {
        if (!hasImage) {
            return STATE;
        }
        now.become(kept);
        return now.waits;
    }

    public int count(int what) {
        switch (what) {
            case 0:
                return now.dots.madeInAll();
            case 1:
                return now.waits;
            case 2:
                return alikeAll(now.stores);
            case 3:
                meet(now.stores);
                return all.aliveInAll();
            case 4:
                return now.tagsInAll();
            default:
                return BAD;
        }
    }

    // ---- the host

    public int sheet(int sheet, int sort, int n) {
        if (!isSheet(sheet) || sort < NONE || sort > FLOATS) {
            return BAD;
        }
        if (sort == NONE) {
            sheets[sheet].become(NONE, 0);
            return 1;
        }
        if (n > ITEMS) {
            return BAD;
        }
        if (n < 0) {
            return BELOW_ZERO;
        }
        sheets[sheet].become(sort, n);
        return 1;
    }

    public int put(int sheet, int i, int v) {
        int refusal = refusalOfItem(sheet, i);
        if (refusal != 0) {
            return refusal;
        }
        Sheet row = sheets[sheet];
        row.items[i] = row.sort == FLOATS ? bitsOf((float) v / 8) : v;
        return 1;
    }

    public long item(int sheet, int i) {
        int refusal = refusalOfItem(sheet, i);
        if (refusal != 0) {
            return OF_LONGS + refusal;
        }
        return sheets[sheet].items[i];
    }

    public int copy(int sheet, int i, int other, int j, int n) {
        if (!isSheet(sheet) || !isSheet(other)) {
            return BAD;
        }
        Sheet from = sheets[sheet];
        Sheet to = sheets[other];
        if (from.isMissing() || to.isMissing()) {
            return MISSING;
        }
        if (from.sort != to.sort) {
            return UNLIKE;
        }
        if (!from.holds(i, n) || !to.holds(j, n)) {
            return OUTSIDE;
        }
        System.arraycopy(from.items, i, to.items, j, n);
        return n;
    }

    // ---- which numbers are such

    private static boolean isReplica(int replica) {
        return replica >= 0 && replica < REPLICAS;
    }

    private static boolean isRoom(int room) {
        return room >= 0 && room < ROOMS;
    }

    private static boolean isObject(int room, int name) {
        return isRoom(room) && name >= 0 && name < NAMES;
    }

    private static boolean isKind(int k) {
        return k >= 0 && k < KINDS;
    }

    private static boolean isSheet(int sheet) {
        return sheet >= 0 && sheet < SHEETS;
    }

    private boolean isMessage(int message) {
        return message >= 0 && message < now.waits;
    }

    /** 0 if the sheet has such an item. */
    private int refusalOfItem(int sheet, int i) {
        if (!isSheet(sheet)) {
            return BAD;
        }
        if (sheets[sheet].isMissing()) {
            return MISSING;
        }
        return i >= 0 && i < sheets[sheet].length ? 0 : OUTSIDE;
    }

    private static int objectAt(int room, int name) {
        return room * NAMES + name;
    }

    private static int placeOf(int replica, int number) {
        return replica * NUMBERS + number;
    }

    private static int pairOf(int replica, int other) {
        return replica * REPLICAS + other;
    }

    private static boolean isOrIsUnder(int own, int k) {
        int upper = own;
        for (int i = 0; i < KINDS && upper != NONE; i++) {
            if (upper == k) {
                return true;
            }
            upper = UNDER[upper];
        }
        return false;
    }

    /** Those gone are marked as heard by the store of what is new. */
    private void markGoneByAdding(Store store, int object, int v) {
        switch (now.kinds[object]) {
            case SET:
                now.dots.markOfValue(store, object, v, fresh);
                break;
            case MOST:
                now.dots.markBetween(store, object, LEAST_INT, v, fresh);
                break;
            case LATEST:
            case MEAN:
                now.dots.markAll(store, object, fresh);
                break;
            default:
                break;
        }
    }

    // ---- stores in thought

    private void meet(Store[] stores) {
        all.empty();
        for (int i = 0; i < REPLICAS; i++) {
            all.join(stores[i]);
        }
    }

    private int alikeAll(Store[] stores) {
        meet(stores);
        int alike = 0;
        for (int i = 0; i < REPLICAS; i++) {
            if (stores[i].isSame(all)) {
                alike++;
            }
        }
        return alike;
    }

    private boolean isAhead(Store its, Store others) {
        thought.become(its);
        thought.join(others);
        return thought.isSame(its);
    }

    private static int otherwise(int[] bits, int[] others) {
        int dots = 0;
        for (int of = 0; of < REPLICAS; of++) {
            dots += Integer.bitCount(bits[of] ^ others[of]);
        }
        return dots;
    }

    /** The messages as bits; ascending, so the first of a size is the least. */
    private int fewestToTell(int replica, int object, long w) {
        int toIt = messagesTo(replica);
        int best = NONE;
        for (int set = 0; set < 1 << MESSAGES; set++) {
            boolean isFewer = best == NONE || Integer.bitCount(set) < Integer.bitCount(best);
            if ((set & ~toIt) == 0 && isFewer) {
                thinkComing(replica, set);
                if (now.worthIn(thought, object) == w) {
                    best = set;
                }
            }
        }
        return best;
    }

    private int messagesTo(int replica) {
        int set = 0;
        for (int i = 0; i < now.waits; i++) {
            if (now.waiting[i].to == replica) {
                set |= 1 << i;
            }
        }
        return set;
    }

    private void thinkComing(int replica, int set) {
        thought.become(now.stores[replica]);
        for (int i = 0; i < now.waits; i++) {
            if ((set >>> i & 1) == 1) {
                thought.join(now.waiting[i].store);
            }
        }
    }

    private int alikeAfterDrawing(int seed, int n) {
        for (int i = 0; i < REPLICAS; i++) {
            thoughts[i].become(now.stores[i]);
        }
        int z = seed;
        for (int i = 0; i < n; i++) {
            z = nextDrawn(z);
            int from = replicaDrawn(z);
            z = nextDrawn(z);
            int to = replicaDrawn(z);
            thoughts[to].join(thoughts[from]);
        }
        return alikeAll(thoughts);
    }

    private static int nextDrawn(int z) {
        return z * 1103515245 + 12345;
    }

    private static int replicaDrawn(int z) {
        return (z >>> 9) % REPLICAS;
    }

    private static int greatestDivisorOfBoth(int m, int good) {
        for (int divisor = m; divisor > 1; divisor--) {
            if (m % divisor == 0 && good % divisor == 0) {
                return divisor;
            }
        }
        return 1;
    }

    // ---- what a sheet tells

    private int kindOfFirst(int room) {
        return now.kinds[objectAt(room, 0)];
    }

    private int firstOtherwise(Sheet row, Store store, int room, int kindOfFirst) {
        for (int name = 0; name < row.length && name < TOLD_ITEMS; name++) {
            int object = objectAt(room, name);
            int k = name == 0 ? kindOfFirst : now.kinds[object];
            if (row.items[name] != (int) now.dots.worthAs(store, object, k)) {
                return name;
            }
        }
        return NONE;
    }

    private int replicasThatTell(Sheet row, int room) {
        int set = 0;
        for (int i = 0; i < REPLICAS; i++) {
            if (firstOtherwise(row, now.stores[i], room, kindOfFirst(room)) == NONE) {
                set |= 1 << i;
            }
        }
        return set;
    }

    private int kindsThatTell(Sheet row, int replica, int room) {
        int set = 0;
        for (int k = 0; k < KINDS; k++) {
            if (firstOtherwise(row, now.stores[replica], room, k) == NONE) {
                set |= 1 << k;
            }
        }
        return set;
    }

    private int messagesThatTell(Sheet row, int replica, int room) {
        int set = 0;
        int toIt = messagesTo(replica);
        for (int i = 0; i < now.waits; i++) {
            if ((toIt >>> i & 1) == 1) {
                thinkComing(replica, 1 << i);
                if (firstOtherwise(row, thought, room, kindOfFirst(room)) == NONE) {
                    set |= 1 << i;
                }
            }
        }
        return set;
    }

    /** Of 0 or a float between a millionth and 1E38 in size, as all are here; the library's own call is not at hand. */
    private static int bitsOf(float f) {
        if (f == 0) {
            return 0;
        }
        int sign = f < 0 ? LEAST_INT : 0;
        float part = f < 0 ? -f : f;
        int exponent = 127;
        while (part >= 2 && exponent < 254) {
            part = part / 2;
            exponent++;
        }
        while (part < 1 && exponent > 1) {
            part = part * 2;
            exponent--;
        }
        return sign | (exponent << 23) | (int) ((part - 1) * 8388608);
    }

    /** Two sets of dots, each by replicas the bits 0 .. 30 of an int. */
    private static final class Store {
        final int[] heard = new int[REPLICAS];
        final int[] alive = new int[REPLICAS];

        void empty() {
            for (int of = 0; of < REPLICAS; of++) {
                heard[of] = 0;
                alive[of] = 0;
            }
        }

        void become(Store other) {
            for (int of = 0; of < REPLICAS; of++) {
                heard[of] = other.heard[of];
                alive[of] = other.alive[of];
            }
        }

        void hear(int of, int number) {
            heard[of] |= 1 << number;
        }

        void enliven(int of, int number) {
            alive[of] |= 1 << number;
        }

        void join(Store other) {
            for (int of = 0; of < REPLICAS; of++) {
                int inBoth = alive[of] & other.alive[of];
                int newsToOther = alive[of] & ~other.heard[of];
                int newsToThis = other.alive[of] & ~heard[of];
                alive[of] = inBoth | newsToOther | newsToThis;
                heard[of] |= other.heard[of];
            }
        }

        boolean isSame(Store other) {
            return otherwise(heard, other.heard) == 0 && otherwise(alive, other.alive) == 0;
        }

        int heardInAll() {
            return bitsIn(heard);
        }

        int aliveInAll() {
            return bitsIn(alive);
        }

        private static int bitsIn(int[] sets) {
            int bits = 0;
            for (int of = 0; of < REPLICAS; of++) {
                bits += Integer.bitCount(sets[of]);
            }
            return bits;
        }
    }

    /** A store on its way, and what its sender had heard when it was sent. */
    private static final class Message {
        int from;
        int to;
        final Store store = new Store();
        final int[] had = new int[REPLICAS];

        void become(int sender, int receiver, Store sent, int[] heard) {
            from = sender;
            to = receiver;
            store.become(sent);
            System.arraycopy(heard, 0, had, 0, REPLICAS);
        }

        void become(Message other) {
            become(other.from, other.to, other.store, other.had);
        }
    }

    /** All that an image keeps. */
    private static final class Network {
        final Dots dots = new Dots();
        final int[] kinds = new int[ROOMS * NAMES];
        final Store[] stores = new Store[REPLICAS];
        final Store[] parcels = new Store[REPLICAS * REPLICAS];
        /** By who knows, then of whom, then by replicas of dots. */
        final int[] known = new int[REPLICAS * REPLICAS * REPLICAS];
        final Message[] waiting = new Message[MESSAGES];
        int waits;

        Network() {
            for (int i = 0; i < REPLICAS; i++) {
                stores[i] = new Store();
            }
            for (int i = 0; i < REPLICAS * REPLICAS; i++) {
                parcels[i] = new Store();
            }
            for (int i = 0; i < MESSAGES; i++) {
                waiting[i] = new Message();
            }
        }

        void become(Network other) {
            dots.become(other.dots);
            System.arraycopy(other.kinds, 0, kinds, 0, kinds.length);
            System.arraycopy(other.known, 0, known, 0, known.length);
            for (int i = 0; i < REPLICAS; i++) {
                stores[i].become(other.stores[i]);
            }
            for (int i = 0; i < REPLICAS * REPLICAS; i++) {
                parcels[i].become(other.parcels[i]);
            }
            for (int i = 0; i < MESSAGES; i++) {
                waiting[i].become(other.waiting[i]);
            }
            waits = other.waits;
        }

        void joinWithNew(int replica, Store fresh) {
            stores[replica].join(fresh);
            for (int other = 0; other < REPLICAS; other++) {
                if (other != replica) {
                    parcels[pairOf(replica, other)].join(fresh);
                }
            }
        }

        void post(int from, int to, Store sent) {
            waiting[waits].become(from, to, sent, stores[from].heard);
            waits++;
        }

        /** The one that goes is laid last, to be written anew. */
        void drop(int message) {
            Message gone = waiting[message];
            for (int i = message; i < waits - 1; i++) {
                waiting[i] = waiting[i + 1];
            }
            waits--;
            waiting[waits] = gone;
        }

        void learn(Message letter) {
            int first = pairOf(letter.to, letter.from) * REPLICAS;
            for (int of = 0; of < REPLICAS; of++) {
                known[first + of] |= letter.had[of];
            }
        }

        /** What a replica knows another one, or itself, to have heard of one's dots. */
        int knownBy(int replica, int other, int of) {
            return other == replica ? stores[replica].heard[of] : known[pairOf(replica, other) * REPLICAS + of];
        }

        int stableAt(int replica, int of) {
            int bits = stores[replica].heard[of];
            for (int other = 0; other < REPLICAS; other++) {
                bits &= knownBy(replica, other, of);
            }
            return bits;
        }

        int tagsAt(int replica, int of) {
            return stores[replica].heard[of] & ~stores[replica].alive[of] & ~stableAt(replica, of);
        }

        int tagsInAll() {
            int tags = 0;
            for (int replica = 0; replica < REPLICAS; replica++) {
                for (int of = 0; of < REPLICAS; of++) {
                    tags += Integer.bitCount(tagsAt(replica, of));
                }
            }
            return tags;
        }

        long worthIn(Store store, int object) {
            return dots.worthAs(store, object, kinds[object]);
        }
    }

    /** All that were made; their rows stand by replicas, then by numbers. */
    private static final class Dots {
        final int[] made = new int[REPLICAS];
        final int[] values = new int[REPLICAS * NUMBERS];
        final int[] stamps = new int[REPLICAS * NUMBERS];
        final int[] objects = new int[REPLICAS * NUMBERS];
        /** Places in the rows, of the dots gathered last. */
        private final int[] gathered = new int[REPLICAS * NUMBERS];

        void become(Dots other) {
            System.arraycopy(other.made, 0, made, 0, made.length);
            System.arraycopy(other.values, 0, values, 0, values.length);
            System.arraycopy(other.stamps, 0, stamps, 0, stamps.length);
            System.arraycopy(other.objects, 0, objects, 0, objects.length);
        }

        int madeInAll() {
            int dots = 0;
            for (int replica = 0; replica < REPLICAS; replica++) {
                dots += made[replica];
            }
            return dots;
        }

        /** The number of the new one, which its replica's store has not heard yet. */
        int make(int replica, Store store, int object, int v) {
            int number = made[replica];
            int place = placeOf(replica, number);
            stamps[place] = 1 + greatestStampHeard(store);
            values[place] = v;
            objects[place] = object;
            made[replica]++;
            return number;
        }

        private int greatestStampHeard(Store store) {
            int greatest = 0;
            for (int of = 0; of < REPLICAS; of++) {
                for (int number = 0; number < made[of]; number++) {
                    if ((store.heard[of] >>> number & 1) == 1) {
                        greatest = Math.max(greatest, stamps[placeOf(of, number)]);
                    }
                }
            }
            return greatest;
        }

        /** How many dots of the object are alive in the store; they are gathered by replicas, then by numbers. */
        private int gather(Store store, int object) {
            int size = 0;
            for (int of = 0; of < REPLICAS; of++) {
                for (int number = 0; number < made[of]; number++) {
                    int place = placeOf(of, number);
                    if ((store.alive[of] >>> number & 1) == 1 && objects[place] == object) {
                        gathered[size] = place;
                        size++;
                    }
                }
            }
            return size;
        }

        void markAll(Store store, int object, Store gone) {
            markBetween(store, object, LEAST_INT, GREATEST_INT, gone);
        }

        void markOfValue(Store store, int object, int v, Store gone) {
            markBetween(store, object, v, v, gone);
        }

        void markBetween(Store store, int object, int least, int most, Store gone) {
            int size = gather(store, object);
            for (int i = 0; i < size; i++) {
                int value = values[gathered[i]];
                if (value >= least && value <= most) {
                    gone.hear(gathered[i] / NUMBERS, gathered[i] % NUMBERS);
                }
            }
        }

        long worthAs(Store store, int object, int k) {
            int size = gather(store, object);
            switch (k) {
                case COUNT:
                    return sumOfGathered(size);
                case LATEST:
                    return latestOfGathered(size);
                case MOST:
                    return mostOfGathered(size);
                case MEAN:
                    return meanOfGathered(size);
                default:
                    return size;
            }
        }

        private long sumOfGathered(int size) {
            long sum = 0;
            for (int i = 0; i < size; i++) {
                sum += values[gathered[i]];
            }
            return sum;
        }

        /** Of like stamps the later one in the row wins, as it is of a greater replica. */
        private int latestOfGathered(int size) {
            int greatest = 0;
            int value = 0;
            for (int i = 0; i < size; i++) {
                int place = gathered[i];
                if (stamps[place] >= greatest) {
                    greatest = stamps[place];
                    value = values[place];
                }
            }
            return value;
        }

        private int mostOfGathered(int size) {
            if (size == 0) {
                return 0;
            }
            int greatest = LEAST_INT;
            for (int i = 0; i < size; i++) {
                greatest = Math.max(greatest, values[gathered[i]]);
            }
            return greatest;
        }

        private int meanOfGathered(int size) {
            if (size == 0) {
                return 0;
            }
            float sum = 0;
            for (int i = 0; i < size; i++) {
                sum = sum + (float) values[gathered[i]];
            }
            return bitsOf(sum / (float) size);
        }
    }

    /** A row of numbers; floats are kept as the ints of their bits, as nothing but these is ever told. */
    private static final class Sheet {
        int sort = NONE;
        int length;
        final int[] items = new int[ITEMS];

        boolean isMissing() {
            return sort == NONE;
        }

        void become(int newSort, int n) {
            sort = newSort;
            length = n;
            for (int i = 0; i < ITEMS; i++) {
                items[i] = 0;
            }
        }

        boolean holds(int i, int n) {
            return i >= 0 && n >= 0 && n <= length && i <= length - n;
        }
    }
}
