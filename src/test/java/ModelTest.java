import java.util.ArrayList;
import java.util.HashMap;
import java.util.List;
import java.util.Map;
import java.util.Random;
import java.util.Set;
import java.util.TreeSet;

/**
 * Runs of drawn calls, each answered as a plain model of the document answers it: a model of sets
 * of dots that are objects, written apart from the class. The runs are the same every time.
 */
public final class ModelTest {
    private static final int RUNS = 4000;
    private static final int CALLS = 512;

    private static final class Dot implements Comparable<Dot> {
        final int replica, number, room, name, value, stamp;

        Dot(int replica, int number, int room, int name, int value, int stamp) {
            this.replica = replica;
            this.number = number;
            this.room = room;
            this.name = name;
            this.value = value;
            this.stamp = stamp;
        }

        @Override public int compareTo(Dot other) {
            return replica != other.replica ? replica - other.replica : number - other.number;
        }
    }

    private static final class Store {
        final Set<Dot> heard = new TreeSet<>();
        final Set<Dot> alive = new TreeSet<>();

        Store copied() {
            return new Store().joined(this);
        }

        Store joined(Store other) {
            Store both = new Store();
            both.heard.addAll(heard);
            both.heard.addAll(other.heard);
            for (Dot dot : both.heard) {
                boolean here = alive.contains(dot);
                boolean there = other.alive.contains(dot);
                boolean news = here && !other.heard.contains(dot) || there && !heard.contains(dot);
                if (here && there || news) {
                    both.alive.add(dot);
                }
            }
            return both;
        }

        boolean like(Store other) {
            return heard.equals(other.heard) && alive.equals(other.alive);
        }
    }

    private static final class Message {
        final int from, to;
        final Store store;
        final Set<Dot> had;

        Message(int from, int to, Store store, Set<Dot> had) {
            this.from = from;
            this.to = to;
            this.store = store;
            this.had = had;
        }
    }

    /** What an image keeps. Stores and messages are never changed but put anew, so copies share them. */
    private static final class Kept {
        final List<List<Dot>> made = new ArrayList<>();
        Store[] stores = new Store[4];
        Store[][] parcels = new Store[4][4];
        final Map<Integer, Set<Dot>> known = new HashMap<>();
        final List<Message> waiting = new ArrayList<>();
        int[][] kinds = new int[3][4];

        Kept() {
            for (int i = 0; i < 4; i++) {
                made.add(new ArrayList<>());
                stores[i] = new Store();
                for (int j = 0; j < 4; j++) {
                    parcels[i][j] = new Store();
                    known.put(10 * i + j, new TreeSet<>());
                }
            }
        }

        Kept copied() {
            Kept other = new Kept();
            other.stores = stores.clone();
            for (int i = 0; i < 4; i++) {
                other.made.get(i).addAll(made.get(i));
                other.parcels[i] = parcels[i].clone();
                for (int j = 0; j < 4; j++) {
                    other.known.get(10 * i + j).addAll(known.get(10 * i + j));
                }
            }
            other.waiting.addAll(waiting);
            for (int room = 0; room < 3; room++) {
                other.kinds[room] = kinds[room].clone();
            }
            return other;
        }
    }

    private static final class Model {
        private Kept now = new Kept();
        private Kept image;
        private final int[] sorts = {-1, -1, -1, -1};
        private final List<List<Integer>> rows = new ArrayList<>();

        Model() {
            for (int i = 0; i < 4; i++) {
                rows.add(new ArrayList<>());
            }
        }

        private static boolean not(int n, int many) {
            return n < 0 || n >= many;
        }

        private static List<Dot> aliveOf(Store store, int room, int name) {
            List<Dot> dots = new ArrayList<>();
            for (Dot dot : store.alive) {
                if (dot.room == room && dot.name == name) {
                    dots.add(dot);
                }
            }
            return dots;
        }

        private int bits(Set<Dot> dots, int of) {
            int bits = 0;
            for (Dot dot : dots) {
                bits |= dot.replica == of ? 1 << dot.number : 0;
            }
            return bits;
        }

        private void change(int replica, List<Dot> gone, Dot fresh) {
            Store what = new Store();
            what.heard.addAll(gone);
            if (fresh != null) {
                what.heard.add(fresh);
                what.alive.add(fresh);
            }
            now.stores[replica] = now.stores[replica].joined(what);
            for (int i = 0; i < 4; i++) {
                now.parcels[replica][i] = now.parcels[replica][i].joined(what);
            }
        }

        private static boolean goes(int kind, int old, int v) {
            return kind == 1 && old == v || kind == 3 || kind == 5 || kind == 4 && old <= v;
        }

        int add(int replica, int room, int name, int v) {
            if (not(replica, 4) || not(room, 3) || not(name, 4)) {
                return -2;
            }
            int number = now.made.get(replica).size();
            if (number == 31) {
                return -4;
            }
            int stamp = 0;
            for (Dot dot : now.stores[replica].heard) {
                stamp = Math.max(stamp, dot.stamp);
            }
            List<Dot> gone = aliveOf(now.stores[replica], room, name);
            gone.removeIf(dot -> !goes(now.kinds[room][name], dot.value, v));
            Dot fresh = new Dot(replica, number, room, name, v, stamp + 1);
            now.made.get(replica).add(fresh);
            change(replica, gone, fresh);
            return number;
        }

        int take(int replica, int room, int name, int v) {
            if (not(replica, 4) || not(room, 3) || not(name, 4)) {
                return -2;
            }
            List<Dot> gone = aliveOf(now.stores[replica], room, name);
            gone.removeIf(dot -> dot.value != v);
            change(replica, gone, null);
            return gone.size();
        }

        int reset(int replica, int room) {
            if (not(replica, 4) || not(room, 3)) {
                return -2;
            }
            List<Dot> gone = new ArrayList<>(now.stores[replica].alive);
            gone.removeIf(dot -> dot.room != room);
            change(replica, gone, null);
            return gone.size();
        }

        int kind(int room, int name, int k) {
            if (not(room, 3) || not(name, 4) || not(k, 6)) {
                return -2;
            }
            int was = now.kinds[room][name];
            now.kinds[room][name] = k;
            return was;
        }

        int taken(int room, int name, int k) {
            if (not(room, 3) || not(name, 4) || not(k, 6)) {
                return -2;
            }
            int[][] isOf = {{0}, {0, 1}, {0, 2}, {0, 1, 3}, {0, 2, 4}, {0, 1, 3, 5}};
            int own = now.kinds[room][name];
            for (int one : isOf[own]) {
                if (one == k) {
                    return own;
                }
            }
            return -13;
        }

        private long worthIn(Store store, int room, int name, int k) {
            List<Dot> dots = aliveOf(store, room, name);
            long sum = 0;
            float floats = 0;
            Dot latest = null;
            int most = Integer.MIN_VALUE;
            for (Dot dot : dots) {
                sum += dot.value;
                floats += (float) dot.value;
                boolean later = latest == null || dot.stamp > latest.stamp
                    || dot.stamp == latest.stamp && dot.replica > latest.replica;
                latest = later ? dot : latest;
                most = Math.max(most, dot.value);
            }
            if (dots.isEmpty()) {
                return 0;
            }
            long[] worths = {dots.size(), dots.size(), sum, latest.value, most, 0};
            return k == 5 ? Float.floatToRawIntBits(floats / (float) dots.size()) : worths[k];
        }

        private long worthIn(Store store, int room, int name) {
            return worthIn(store, room, name, now.kinds[room][name]);
        }

        long worth(int replica, int room, int name) {
            if (not(replica, 4) || not(room, 3) || not(name, 4)) {
                return -1000000000002L;
            }
            return worthIn(now.stores[replica], room, name);
        }

        private Set<Dot> knows(int replica, int of) {
            return of == replica ? now.stores[replica].heard : now.known.get(10 * replica + of);
        }

        private Set<Dot> stable(int replica) {
            Set<Dot> stable = new TreeSet<>(now.stores[replica].heard);
            for (int of = 0; of < 4; of++) {
                stable.retainAll(knows(replica, of));
            }
            return stable;
        }

        private Set<Dot> tags(int replica) {
            Set<Dot> tags = new TreeSet<>(now.stores[replica].heard);
            tags.removeAll(now.stores[replica].alive);
            tags.removeAll(stable(replica));
            return tags;
        }

        int told(int replica, int of, int what) {
            if (not(replica, 4) || not(of, 4) || not(what, 4) && (what < 10 || what > 13)) {
                return -2;
            }
            switch (what) {
                case 0: return bits(now.stores[replica].heard, of);
                case 1: return bits(now.stores[replica].alive, of);
                case 2: return bits(stable(replica), of);
                case 3: return bits(tags(replica), of);
                default: return bits(knows(replica, of), what - 10);
            }
        }

        int dot(int replica, int number, int what) {
            if (not(what, 3)) {
                return -2;
            }
            if (not(replica, 4) || not(number, now.made.get(replica).size())) {
                return -12;
            }
            Dot dot = now.made.get(replica).get(number);
            return what == 0 ? dot.value : what == 1 ? dot.stamp : 10 * dot.room + dot.name;
        }

        int has(int replica, int room, int name, int v) {
            if (not(replica, 4) || not(room, 3) || not(name, 4)) {
                return -2;
            }
            int many = 0;
            for (Dot dot : aliveOf(now.stores[replica], room, name)) {
                many += dot.value == v ? 1 : 0;
            }
            return many;
        }

        int send(int from, int to, int what) {
            if (not(from, 4) || not(to, 4) || from == to || not(what, 2)) {
                return -2;
            }
            if (now.waiting.size() == 6) {
                return -4;
            }
            Store sent = now.stores[from];
            if (what == 1) {
                sent = now.parcels[from][to];
                now.parcels[from][to] = new Store();
            }
            now.waiting.add(new Message(from, to, sent, now.stores[from].heard));
            return now.waiting.size() - 1;
        }

        int come(int message) {
            if (not(message, now.waiting.size())) {
                return -2;
            }
            Message one = now.waiting.remove(message);
            int before = now.stores[one.to].heard.size();
            now.stores[one.to] = now.stores[one.to].joined(one.store);
            now.known.get(10 * one.to + one.from).addAll(one.had);
            return now.stores[one.to].heard.size() - before;
        }

        int lose(int message) {
            if (not(message, now.waiting.size())) {
                return -2;
            }
            now.waiting.remove(message);
            return 1;
        }

        int twice(int message) {
            if (not(message, now.waiting.size())) {
                return -2;
            }
            if (now.waiting.size() == 6) {
                return -4;
            }
            now.waiting.add(now.waiting.get(message));
            return now.waiting.size() - 1;
        }

        int letter(int message, int what) {
            if (not(message, now.waiting.size()) || not(what, 4)) {
                return -2;
            }
            Message one = now.waiting.get(message);
            return new int[] {one.from, one.to, one.store.heard.size(), one.store.alive.size()}[what];
        }

        private static Store metOf(Store[] stores) {
            return stores[3].joined(stores[1]).joined(stores[0].joined(stores[2]));
        }

        long met(int room, int name) {
            if (not(room, 3) || not(name, 4)) {
                return -1000000000002L;
            }
            return worthIn(metOf(now.stores), room, name);
        }

        private static int apartIn(Set<Dot> one, Set<Dot> other) {
            Set<Dot> both = new TreeSet<>(one);
            both.retainAll(other);
            return one.size() + other.size() - 2 * both.size();
        }

        int apart(int one, int other, int what) {
            if (not(one, 4) || not(other, 4) || not(what, 4)) {
                return -2;
            }
            Store a = now.stores[one];
            Store b = now.stores[other];
            boolean ahead = a.joined(b).like(a);
            boolean behind = b.joined(a).like(b);
            switch (what) {
                case 0: return ahead ? 1 : 0;
                case 1: return ahead && behind ? 1 : 0;
                case 2: return apartIn(a.heard, b.heard);
                default: return apartIn(a.alive, b.alive);
            }
        }

        int needs(int replica, int room, int name, long w, int what) {
            if (not(replica, 4) || not(room, 3) || not(name, 4) || not(what, 2)) {
                return -2;
            }
            for (int size = 0; size <= 6; size++) {
                for (int set = 0; set < 64; set++) {
                    if (Integer.bitCount(set) == size && isBySet(replica, room, name, w, set)) {
                        return what == 0 ? size : set;
                    }
                }
            }
            return -1;
        }

        private boolean isBySet(int replica, int room, int name, long w, int set) {
            Store store = now.stores[replica];
            for (int i = 5; i >= 0; i--) {
                if ((set >> i & 1) == 1) {
                    if (i >= now.waiting.size() || now.waiting.get(i).to != replica) {
                        return false;
                    }
                    store = now.waiting.get(i).store.joined(store);
                }
            }
            return worthIn(store, room, name) == w;
        }

        private int alikeAfter(int seed, int n) {
            Store[] stores = now.stores.clone();
            long z = seed;
            for (int i = 0; i < n; i++) {
                z = z * 1103515245L + 12345 & 0xffffffffL;
                int from = (int) (z / 512 % 4);
                z = z * 1103515245L + 12345 & 0xffffffffL;
                int to = (int) (z / 512 % 4);
                stores[to] = stores[to].joined(stores[from]);
            }
            int alike = 0;
            for (Store store : stores) {
                alike += store.like(metOf(stores)) ? 1 : 0;
            }
            return alike;
        }

        int drawn(int seed, int n) {
            return not(n, 21) ? -2 : alikeAfter(seed, n);
        }

        int chance(int seed, int m, int part) {
            if (m < 1 || m > 8 || not(part, 2)) {
                return -2;
            }
            int good = 0;
            for (int i = 0; i < m; i++) {
                good += alikeAfter(seed + i, 8) == 4 ? 1 : 0;
            }
            int below = 1;
            while (good * below % m != 0) {
                below++;
            }
            return part == 0 ? good * below / m : below;
        }

        private int firstOther(int sheet, Store store, int room, int kindOfFirst) {
            for (int i = 0; i < rows.get(sheet).size(); i++) {
                int k = i == 0 ? kindOfFirst : now.kinds[room][i];
                if (rows.get(sheet).get(i) != (int) worthIn(store, room, i, k)) {
                    return i;
                }
            }
            return -1;
        }

        int tells(int sheet, int replica, int room, int what) {
            if (not(sheet, 4) || not(replica, 4) || not(room, 3) || not(what, 4)) {
                return -2;
            }
            if (sorts[sheet] < 0) {
                return -11;
            }
            if (rows.get(sheet).size() > 4 || rows.get(sheet).isEmpty() && what == 2) {
                return -2;
            }
            int first = now.kinds[room][0];
            Store store = now.stores[replica];
            int bits = 0;
            switch (what) {
                case 0:
                    return firstOther(sheet, store, room, first);
                case 1:
                    for (int i = 0; i < 4; i++) {
                        bits |= firstOther(sheet, now.stores[i], room, first) < 0 ? 1 << i : 0;
                    }
                    return bits;
                case 2:
                    for (int k = 0; k < 6; k++) {
                        bits |= firstOther(sheet, store, room, k) < 0 ? 1 << k : 0;
                    }
                    return bits;
                default:
                    for (int i = 0; i < now.waiting.size(); i++) {
                        Message one = now.waiting.get(i);
                        boolean so = one.to == replica && firstOther(sheet, store.joined(one.store), room, first) < 0;
                        bits |= so ? 1 << i : 0;
                    }
                    return bits;
            }
        }

        int film(int sheet, int replica, int room, int n) {
            if (not(sheet, 4) || not(replica, 4) || not(room, 3) || not(n, 5)) {
                return -2;
            }
            sorts[sheet] = 0;
            rows.get(sheet).clear();
            for (int i = 0; i < n; i++) {
                rows.get(sheet).add((int) worthIn(now.stores[replica], room, i));
            }
            return n;
        }

        int image() {
            image = now.copied();
            return now.waiting.size();
        }

        int back() {
            if (image == null) {
                return -3;
            }
            now = image.copied();
            return now.waiting.size();
        }

        int count(int what) {
            int many = 0;
            Store met = metOf(now.stores);
            for (int i = 0; i < 4; i++) {
                switch (what) {
                    case 0: many += now.made.get(i).size(); break;
                    case 2: many += now.stores[i].like(met) ? 1 : 0; break;
                    case 4: many += tags(i).size(); break;
                    default: break;
                }
            }
            return not(what, 5) ? -2 : what == 1 ? now.waiting.size() : what == 3 ? met.alive.size() : many;
        }

        int sheet(int sheet, int sort, int n) {
            if (not(sheet, 4) || sort < -1 || sort > 1 || sort >= 0 && n > 40) {
                return -2;
            }
            if (sort >= 0 && n < 0) {
                return -14;
            }
            sorts[sheet] = sort;
            rows.get(sheet).clear();
            for (int i = 0; i < n && sort >= 0; i++) {
                rows.get(sheet).add(0);
            }
            return 1;
        }

        private int refusal(int sheet, int i) {
            return not(sheet, 4) ? -2 : sorts[sheet] < 0 ? -11 : not(i, rows.get(sheet).size()) ? -12 : 0;
        }

        int put(int sheet, int i, int v) {
            if (refusal(sheet, i) != 0) {
                return refusal(sheet, i);
            }
            rows.get(sheet).set(i, sorts[sheet] == 0 ? v : Float.floatToRawIntBits((float) v / 8f));
            return 1;
        }

        long item(int sheet, int i) {
            return refusal(sheet, i) != 0 ? refusal(sheet, i) - 1000000000000L : rows.get(sheet).get(i);
        }

        int copy(int sheet, int i, int other, int j, int n) {
            if (not(sheet, 4) || not(other, 4)) {
                return -2;
            }
            if (sorts[sheet] < 0 || sorts[other] < 0) {
                return -11;
            }
            if (sorts[sheet] != sorts[other]) {
                return -13;
            }
            long endHere = (long) i + n;
            long endThere = (long) j + n;
            if (n < 0 || i < 0 || j < 0 || endHere > rows.get(sheet).size() || endThere > rows.get(other).size()) {
                return -12;
            }
            List<Integer> were = new ArrayList<>(rows.get(sheet));
            for (int k = 0; k < n; k++) {
                rows.get(other).set(j + k, were.get(i + k));
            }
            return n;
        }
    }

    /** Draws calls, mostly of numbers that are such, now and then of others. */
    private static final class Caller {
        private static final int[] ENDS = {-1, Integer.MIN_VALUE, Integer.MAX_VALUE, 4, 3, 5, 6, 31, 40, 41};
        final Random random;
        final Model model = new Model();
        final JoinedStores x = new JoinedStores();
        final int adding;
        String call;
        long want;
        long got;

        Caller(int run) {
            random = new Random(run);
            adding = 3 + run % 20;
        }

        private int below(int many) {
            return random.nextInt(40) == 0 ? ENDS[random.nextInt(ENDS.length)] : random.nextInt(many);
        }

        private int value() {
            int sort = random.nextInt(12);
            return sort == 0 ? random.nextInt() : sort == 1 ? Integer.MAX_VALUE - random.nextInt(3) : random.nextInt(4) - 1;
        }

        private void answered(String text, long modelled, long real) {
            call = text;
            want = modelled;
            got = real;
        }

        void next() {
            int which = random.nextInt(26 + adding);
            int a = below(4), r = below(3), n = below(4), v = value();
            if (which >= 26) {
                change(random.nextInt(10), a, r, n, v);
            } else if (which < 13) {
                look(which, a, r, n, v);
            } else {
                lookMore(which, a, r, n, v);
            }
        }

        private void change(int which, int a, int r, int n, int v) {
            int b = below(4), k = below(6), m = below(Math.max(1, model.now.waiting.size()));
            switch (which) {
                case 0: case 1:
                    answered("add " + a + " " + r + " " + n + " " + v, model.add(a, r, n, v), x.add(a, r, n, v));
                    break;
                case 2:
                    answered("take " + a + " " + r + " " + n + " " + v, model.take(a, r, n, v), x.take(a, r, n, v));
                    break;
                case 3:
                    if (random.nextInt(4) == 0) {
                        answered("reset " + a + " " + r, model.reset(a, r), x.reset(a, r));
                        break;
                    }
                    answered("kind " + r + " " + n + " " + k, model.kind(r, n, k), x.kind(r, n, k));
                    break;
                case 4: case 5: case 6:
                    int what = below(2);
                    answered("send " + a + " " + b + " " + what, model.send(a, b, what), x.send(a, b, what));
                    break;
                case 7: case 8:
                    answered("come " + m, model.come(m), x.come(m));
                    break;
                default:
                    if (random.nextInt(3) == 0) {
                        answered("lose " + m, model.lose(m), x.lose(m));
                        break;
                    }
                    answered("twice " + m, model.twice(m), x.twice(m));
                    break;
            }
        }

        private void look(int which, int a, int r, int n, int v) {
            int b = below(4), k = below(6), m = below(6), what = below(4);
            switch (which) {
                case 0:
                    answered("taken", model.taken(r, n, k), x.taken(r, n, k));
                    break;
                case 1:
                    answered("worth " + a + " " + r + " " + n, model.worth(a, r, n), x.worth(a, r, n));
                    break;
                case 2:
                    int of = random.nextBoolean() ? what : what + 10;
                    answered("told " + a + " " + b + " " + of, model.told(a, b, of), x.told(a, b, of));
                    break;
                case 3:
                    int d = below(8);
                    answered("dot " + a + " " + d + " " + what, model.dot(a, d, what), x.dot(a, d, what));
                    break;
                case 4:
                    answered("has", model.has(a, r, n, v), x.has(a, r, n, v));
                    break;
                case 5:
                    answered("letter " + m + " " + what, model.letter(m, what), x.letter(m, what));
                    break;
                case 6:
                    answered("met " + r + " " + n, model.met(r, n), x.met(r, n));
                    break;
                case 7:
                    answered("apart " + a + " " + b + " " + what, model.apart(a, b, what), x.apart(a, b, what));
                    break;
                case 8: case 9:
                    needs(a, r, n);
                    break;
                case 10:
                    int times = below(21), seed = random.nextInt();
                    answered("drawn " + seed + " " + times, model.drawn(seed, times), x.drawn(seed, times));
                    break;
                case 11:
                    int seeds = below(9), part = below(2), from = random.nextInt(3) - 1 + random.nextInt(2) * Integer.MAX_VALUE;
                    answered("chance", model.chance(from, seeds, part), x.chance(from, seeds, part));
                    break;
                default:
                    int c = below(5);
                    answered("count " + c, model.count(c), x.count(c));
                    break;
            }
        }

        /** Mostly of what it is somewhere. */
        private void needs(int a, int r, int n) {
            long w = random.nextInt(3) == 0 ? random.nextInt(4) : model.met(r, n);
            if (random.nextInt(3) == 0) {
                w = model.worth(random.nextInt(4), r, n);
            }
            int what = below(2);
            String text = "needs " + a + " " + r + " " + n + " " + w + " " + what;
            answered(text, model.needs(a, r, n, w, what), x.needs(a, r, n, w, what));
        }

        private void lookMore(int which, int a, int r, int n, int v) {
            int s = below(4), t = below(4), i = below(6), j = below(6), what = below(4);
            switch (which) {
                case 13: case 14: case 15: case 16:
                    answered("tells " + s + " " + a + " " + r + " " + what, model.tells(s, a, r, what), x.tells(s, a, r, what));
                    break;
                case 17: case 18:
                    int many = below(5);
                    answered("film", model.film(s, a, r, many), x.film(s, a, r, many));
                    break;
                case 19:
                    if (random.nextInt(4) == 0) {
                        answered("image", model.image(), x.image());
                        break;
                    }
                    if (random.nextInt(4) == 0) {
                        answered("back", model.back(), x.back());
                        break;
                    }
                    answered("count 0", model.count(0), x.count(0));
                    break;
                case 20:
                    int sort = below(4) - 1, size = random.nextInt(4) == 0 ? below(43) - 1 : below(6);
                    answered("sheet " + s + " " + sort + " " + size, model.sheet(s, sort, size), x.sheet(s, sort, size));
                    break;
                case 21: case 22:
                    answered("put " + s + " " + i + " " + v, model.put(s, i, v), x.put(s, i, v));
                    break;
                case 23: case 24:
                    answered("item " + s + " " + i, model.item(s, i), x.item(s, i));
                    break;
                default:
                    int copied = below(5) - (random.nextInt(9) == 0 ? 1 : 0);
                    String text = "copy " + s + " " + i + " " + t + " " + j + " " + copied;
                    answered(text, model.copy(s, i, t, j, copied), x.copy(s, i, t, j, copied));
                    break;
            }
        }
    }

    public static void main(String[] args) {
        int wrong = 0;
        for (int run = 0; run < RUNS && wrong < 20; run++) {
            Caller caller = new Caller(run);
            for (int i = 0; i < CALLS; i++) {
                caller.next();
                if (caller.want != caller.got) {
                    wrong++;
                    System.out.println("run " + run + ", call " + i + ": " + caller.call + " answered "
                        + caller.got + ", due is " + caller.want);
                    break;
                }
            }
        }
        System.out.println(RUNS + " drawn runs of " + CALLS + " calls, " + wrong + " wrong");
        if (wrong != 0) {
            System.exit(1);
        }
    }
}
