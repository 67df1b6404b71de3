import java.math.BigInteger;
import java.util.ArrayList;
import java.util.List;
import java.util.function.IntPredicate;
import java.util.function.IntToLongFunction;

/**
 * The document once more, as slowly and as literally as can be: kinds are classes, each chance walks
 * over all throws, each choice over all sets. It shares nothing with the program that it is held against.
 */
final class Model {
    static class Promise {
        int kind, coin, second, thing, number, cost, place;
        Model town;

        boolean kept(int t) { return heads(t, coin); }

        int owes(int t) { return kept(t) ? cost : 0; }

        static boolean heads(int t, int coin) { return (t & 1 << coin) != 0; }
    }

    static class Iffed extends Promise {
        @Override boolean kept(int t) { return super.kept(t) && heads(t, second); }
    }

    static class Either extends Promise {
        @Override boolean kept(int t) { return super.kept(t) || heads(t, second); }
    }

    static class Back extends Iffed {
        @Override int owes(int t) { return super.owes(t) + (kept(t) ? 0 : 1); }
    }

    static class Freed extends Promise {
        @Override int owes(int t) { return kept(t) ? cost / 2 : 0; }
    }

    static class Tailed extends Either {
        @Override boolean kept(int t) { return !super.kept(t); }
    }

    static class Chained extends Back {
        @Override boolean kept(int t) {
            return super.kept(t) && (place == 0 || town.promises.get(place - 1).kept(t));
        }

        @Override int owes(int t) { return 2 * super.owes(t); }
    }

    static final Class<?>[] CLASSES = {Promise.class, Iffed.class, Either.class, Back.class, Freed.class,
        Tailed.class, Chained.class};

    static Promise make(int kind) {
        return switch (kind) {
            case 0 -> new Promise();
            case 1 -> new Iffed();
            case 2 -> new Either();
            case 3 -> new Back();
            case 4 -> new Freed();
            case 5 -> new Tailed();
            default -> new Chained();
        };
    }

    int[] a = {1, 1, 1, 1, 1, 1, 1, 1};
    int[] b = {2, 2, 2, 2, 2, 2, 2, 2};
    List<Promise> promises = new ArrayList<>();
    List<int[]> needs = new ArrayList<>();
    Integer latest = null;
    int z = 1;
    Integer[] spots = new Integer[10];
    StringBuilder tape = new StringBuilder();
    int[][] sheets = new int[4][];
    int[] bits = new int[4];
    Model image = null;
    List<Integer> findings = new ArrayList<>();

    private int f(int finding) {
        findings.add(finding);
        return finding;
    }

    private boolean in(int v, int low, int high) { return low <= v && v <= high; }

    private boolean p(int i) { return in(i, 0, promises.size() - 1); }

    private boolean set(int s) { return in(s, 0, (1 << promises.size()) - 1); }

    private boolean nd(int i) { return in(i, 0, needs.size() - 1); }

    private boolean partOk(int what, int v) {
        return switch (what) {
            case 0 -> in(v, 0, 6);
            case 1, 2 -> in(v, 0, 7);
            case 3 -> in(v, 0, 5);
            case 4 -> in(v, 1, 9);
            case 5 -> in(v, 0, 49);
            default -> false;
        };
    }

    int feed(int bytes, int n) {
        if (!in(n, 1, 4)) return f(Due.BEYOND);
        if (tape.length() + n > 120) return f(Due.FULL);
        for (int i = n - 1; i >= 0; i--) tape.append((char) ((bytes >>> (8 * i)) & 255));
        return tape.length();
    }

    int wipe() {
        int n = tape.length();
        tape.setLength(0);
        return n;
    }

    private static final class Fault extends Exception {
        private static final long serialVersionUID = 1L;
        final int at;

        Fault(int at) { this.at = at; }
    }

    private List<String> tokens;
    private List<Integer> places;
    private int pos;

    private void split(String s) {
        tokens = new ArrayList<>();
        places = new ArrayList<>();
        java.util.regex.Matcher m = java.util.regex.Pattern.compile("[a-z]+|[0-9]+|[^ ]",
                java.util.regex.Pattern.DOTALL).matcher(s);
        while (m.find()) {
            tokens.add(m.group());
            places.add(m.start());
        }
        tokens.add("");
        places.add(s.length());
        pos = 0;
    }

    private int number(int low, int high) throws Fault {
        String s = tokens.get(pos);
        if (!s.matches("[0-9]+")) throw new Fault(places.get(pos));
        BigInteger v = new BigInteger(s);
        if (v.compareTo(BigInteger.valueOf(low)) < 0 || v.compareTo(BigInteger.valueOf(high)) > 0) {
            throw new Fault(places.get(pos));
        }
        pos++;
        return v.intValue();
    }

    private boolean perhaps(String w) {
        if (!tokens.get(pos).equals(w)) return false;
        pos++;
        return true;
    }

    private void word(String w) throws Fault {
        if (!perhaps(w)) throw new Fault(places.get(pos));
    }

    private void item() throws Fault {
        int begin = places.get(pos);
        List<String> kinds = List.of("promise", "iffed", "either", "back", "freed", "tailed", "chained");
        if (perhaps("coin")) {
            int c = number(0, 7);
            int above = number(0, 6);
            word("in");
            int below = number(Math.max(above, 1), 6);
            a[c] = above;
            b[c] = below;
        } else if (perhaps("need")) {
            if (needs.size() == 6) throw new Fault(begin);
            int thing = number(0, 5);
            int n = number(1, 40);
            int worth = perhaps("worth") ? number(1, 99) : 1;
            needs.add(new int[] {thing, n, worth});
        } else if (kinds.contains(tokens.get(pos))) {
            if (promises.size() == 10) throw new Fault(begin);
            int kind = kinds.indexOf(tokens.get(pos++));
            int coin = number(0, 7);
            int second = perhaps("with") ? number(0, 7) : coin;
            word("brings");
            int thing = number(0, 5);
            int n = number(1, 9);
            int cost = perhaps("cost") ? number(0, 49) : 0;
            add(kind, coin, second, thing, n, cost);
        } else {
            throw new Fault(begin);
        }
    }

    private void add(int kind, int coin, int second, int thing, int n, int cost) {
        put(promises.size(), kind, coin, second, thing, n, cost);
    }

    private void put(int place, int kind, int coin, int second, int thing, int n, int cost) {
        Promise q = make(kind);
        q.kind = kind;
        q.coin = coin;
        q.second = second;
        q.thing = thing;
        q.number = n;
        q.cost = cost;
        q.place = place;
        q.town = this;
        if (place == promises.size()) promises.add(q);
        else promises.set(place, q);
    }

    int town() {
        Model before = kept(this);
        split(tape.toString());
        tape.setLength(0);
        try {
            int items = 0;
            do {
                item();
                items++;
            } while (perhaps(";"));
            if (!tokens.get(pos).isEmpty()) throw new Fault(places.get(pos));
            return items;
        } catch (Fault fault) {
            restore(before);
            return -1 - fault.at;
        }
    }

    int coin(int c, int above, int below) {
        if (!in(c, 0, 7) || !in(below, 1, 6) || !in(above, 0, below)) return f(Due.BEYOND);
        int was = 10 * a[c] + b[c];
        a[c] = above;
        b[c] = below;
        return was;
    }

    int promise(int kind, int coin, int thing, int n) {
        if (!in(kind, 0, 6) || !in(coin, 0, 7) || !in(thing, 0, 5) || !in(n, 1, 9)) return f(Due.BEYOND);
        if (promises.size() == 10) return f(Due.FULL);
        add(kind, coin, coin, thing, n, 0);
        return promises.size() - 1;
    }

    private int[] parts(Promise q) { return new int[] {q.kind, q.coin, q.second, q.thing, q.number, q.cost}; }

    int promiseOf(int i, int what) {
        if (!p(i) || !in(what, 0, 5)) return f(Due.BEYOND);
        return parts(promises.get(i))[what];
    }

    int change(int i, int what, int v) {
        if (!p(i) || !in(what, 0, 5) || !partOk(what, v)) return f(Due.BEYOND);
        int[] q = parts(promises.get(i));
        int was = q[what];
        q[what] = v;
        put(i, q[0], q[1], q[2], q[3], q[4], q[5]);
        return was;
    }

    int drop() {
        if (promises.isEmpty()) return f(Due.NONE);
        int gone = promises.size() - 1;
        promises.remove(gone);
        for (int s = 0; s < 10; s++) if (spots[s] != null && spots[s] == gone) spots[s] = null;
        return promises.size();
    }

    int need(int thing, int n, int worth) {
        if (!in(thing, 0, 5) || !in(n, 1, 40) || !in(worth, 1, 99)) return f(Due.BEYOND);
        if (needs.size() == 6) return f(Due.FULL);
        needs.add(new int[] {thing, n, worth});
        return needs.size() - 1;
    }

    int needOf(int i, int what) {
        if (!nd(i) || !in(what, 0, 2)) return f(Due.BEYOND);
        return needs.get(i)[what];
    }

    private int toss() {
        int t = 0;
        for (int c = 0; c < 8; c++) {
            z = z * 1103515245 + 12345;
            if ((z >>> 8) % b[c] < a[c]) t += 1 << c;
        }
        return t;
    }

    int cast() {
        latest = toss();
        return latest;
    }

    int lay(int coins) {
        if (!in(coins, 0, 255)) return f(Due.BEYOND);
        latest = coins;
        return 1;
    }

    private int keptIn(int t) {
        int s = 0;
        for (Promise q : promises) if (q.kept(t)) s |= 1 << q.place;
        return s;
    }

    private int owed(int set, int t) {
        int sum = 0;
        for (Promise q : promises) if ((set & 1 << q.place) != 0) sum += q.owes(t);
        return sum;
    }

    private int bring(int set, int thing, int t) {
        int sum = 0;
        for (Promise q : promises) {
            if ((set & 1 << q.place) != 0 && q.thing == thing && q.kept(t)) sum += q.number;
        }
        return sum;
    }

    private boolean isMet(int[] need, int set, int t) { return bring(set, need[0], t) >= need[1]; }

    private int metIn(int set, int t) {
        int s = 0;
        for (int i = 0; i < needs.size(); i++) if (isMet(needs.get(i), set, t)) s |= 1 << i;
        return s;
    }

    private long worthIn(int set, int t) {
        long sum = 0;
        for (int[] need : needs) if (isMet(need, set, t)) sum += need[2];
        return sum;
    }

    int kept() { return latest == null ? f(Due.NONE) : keptIn(latest); }

    int owes(int s) { return !set(s) ? f(Due.BEYOND) : latest == null ? f(Due.NONE) : owed(s, latest); }

    int brings(int s, int thing) {
        if (!set(s) || !in(thing, 0, 5)) return f(Due.BEYOND);
        return latest == null ? f(Due.NONE) : bring(s, thing, latest);
    }

    int met(int s) { return !set(s) ? f(Due.BEYOND) : latest == null ? f(Due.NONE) : metIn(s, latest); }

    private long w(int t) {
        long v = 1;
        for (int c = 0; c < 8; c++) v *= (t & 1 << c) != 0 ? a[c] : b[c] - a[c];
        return v;
    }

    private long whole() {
        long v = 1;
        for (int c = 0; c < 8; c++) v *= b[c];
        return v;
    }

    private long sum(IntToLongFunction g) {
        long v = 0;
        for (int t = 0; t < 256; t++) {
            long w = w(t);
            if (w != 0) v += w * g.applyAsLong(t);
        }
        return v;
    }

    private long when(IntPredicate g) { return sum(t -> g.test(t) ? 1 : 0); }

    private int told(long above, int part) {
        long g = BigInteger.valueOf(above).gcd(BigInteger.valueOf(whole())).longValueExact();
        return Math.toIntExact((part == 0 ? above : whole()) / g);
    }

    int weight(int t) { return in(t, 0, 255) ? (int) w(t) : f(Due.BEYOND); }

    int chance(int i, int part) {
        if (!p(i) || !in(part, 0, 1)) return f(Due.BEYOND);
        return told(when(t -> promises.get(i).kept(t)), part);
    }

    int joint(int i, int j, int what, int part) {
        if (!p(i) || !p(j) || !in(what, 0, 2) || !in(part, 0, 1)) return f(Due.BEYOND);
        return told(when(t -> {
            boolean x = promises.get(i).kept(t);
            boolean y = promises.get(j).kept(t);
            return what == 0 ? x && y : what == 1 ? x || y : x != y;
        }), part);
    }

    int sure(int n, int s, int part) {
        if (!nd(n) || !set(s) || !in(part, 0, 1)) return f(Due.BEYOND);
        return told(when(t -> isMet(needs.get(n), s, t)), part);
    }

    int all(int s, int part) {
        if (!set(s) || !in(part, 0, 1)) return f(Due.BEYOND);
        return told(when(t -> needs.stream().allMatch(n -> isMet(n, s, t))), part);
    }

    int mean(int s, int part) {
        if (!set(s) || !in(part, 0, 1)) return f(Due.BEYOND);
        return told(sum(t -> owed(s, t)), part);
    }

    int worth(int s, int part) {
        if (!set(s) || !in(part, 0, 1)) return f(Due.BEYOND);
        return told(sum(t -> worthIn(s, t)), part);
    }

    int harm(int s, int much, int part) {
        if (!set(s) || !in(much, 0, 9999) || !in(part, 0, 1)) return f(Due.BEYOND);
        return told(when(t -> owed(s, t) > much), part);
    }

    int likely(int s) {
        if (!set(s)) return f(Due.BEYOND);
        int best = 0;
        long most = -1;
        for (int n = 0; n <= 10; n++) {
            int count = n;
            long v = when(t -> Integer.bitCount(keptIn(t) & s) == count);
            if (v > most) {
                most = v;
                best = n;
            }
        }
        return best;
    }

    private boolean ratio(int x, int y) { return in(y, 1, 999) && in(x, 0, y); }

    private boolean enough(int n, int s, int x, int y) {
        return when(t -> isMet(needs.get(n), s, t)) * y >= whole() * x;
    }

    int fewest(int n, int x, int y) {
        if (!nd(n) || !ratio(x, y)) return f(Due.BEYOND);
        for (int size = 0; size <= promises.size(); size++) {
            for (int s = 0; s < 1 << promises.size(); s++) {
                if (Integer.bitCount(s) == size && enough(n, s, x, y)) return s;
            }
        }
        return f(Due.NONE);
    }

    int cheapest(int n, int x, int y) {
        if (!nd(n) || !ratio(x, y)) return f(Due.BEYOND);
        int best = -1;
        long least = Long.MAX_VALUE;
        for (int s = 0; s < 1 << promises.size(); s++) {
            int set = s;
            if (!enough(n, s, x, y)) continue;
            long v = sum(t -> owed(set, t));
            if (v < least) {
                least = v;
                best = s;
            }
        }
        return best < 0 ? f(Due.NONE) : best;
    }

    int most(int much, int x, int y) {
        if (!in(much, 0, 9999) || !ratio(x, y)) return f(Due.BEYOND);
        for (int size = promises.size(); size >= 0; size--) {
            for (int s = 0; s < 1 << promises.size(); s++) {
                int set = s;
                if (Integer.bitCount(s) == size && when(t -> owed(set, t) > much) * y <= whole() * x) return s;
            }
        }
        throw new IllegalStateException();
    }

    int best() {
        int best = 0;
        long most = Long.MIN_VALUE;
        for (int s = 0; s < 1 << promises.size(); s++) {
            int set = s;
            long v = sum(t -> worthIn(set, t) - owed(set, t));
            if (v > most) {
                most = v;
                best = s;
            }
        }
        return best;
    }

    int helps() {
        int best = 0;
        long bestAbove = -1;
        long bestBelow = 1;
        for (int c = 0; c < 8; c++) {
            int wasA = a[c];
            int wasB = b[c];
            a[c] = 1;
            b[c] = 1;
            long above = sum(t -> worthIn((1 << promises.size()) - 1, t));
            long below = whole();
            a[c] = wasA;
            b[c] = wasB;
            if (above * bestBelow > bestAbove * below) {
                bestAbove = above;
                bestBelow = below;
                best = c;
            }
        }
        return best;
    }

    private boolean hang(int i, int c) {
        for (int t = 0; t < 256; t++) {
            if (promises.get(i).kept(t) != promises.get(i).kept(t ^ 1 << c)) return true;
        }
        return false;
    }

    int hangs(int c) {
        if (!in(c, 0, 7)) return f(Due.BEYOND);
        int s = 0;
        for (int i = 0; i < promises.size(); i++) if (hang(i, c)) s |= 1 << i;
        return s;
    }

    int asks(int i) {
        if (!p(i)) return f(Due.BEYOND);
        int s = 0;
        for (int c = 0; c < 8; c++) if (hang(i, c)) s |= 1 << c;
        return s;
    }

    int apart(int i, int j) {
        if (!p(i) || !p(j) || i == j) return f(Due.BEYOND);
        BigInteger both = BigInteger.valueOf(when(t -> promises.get(i).kept(t) && promises.get(j).kept(t)));
        BigInteger one = BigInteger.valueOf(when(t -> promises.get(i).kept(t)));
        BigInteger other = BigInteger.valueOf(when(t -> promises.get(j).kept(t)));
        return both.multiply(BigInteger.valueOf(whole())).equals(one.multiply(other)) ? 1 : 0;
    }

    int tries(int n, int s, int times) {
        if (!nd(n) || !set(s) || !in(times, 1, 100)) return f(Due.BEYOND);
        int hits = 0;
        for (int i = 0; i < times; i++) if (isMet(needs.get(n), s, toss())) hits++;
        return hits;
    }

    int seed(int v) {
        int was = z;
        z = v;
        return was;
    }

    int hold(int spot, int i) {
        if (!in(spot, 0, 9) || i != -1 && !p(i)) return f(Due.BEYOND);
        spots[spot] = i == -1 ? null : i;
        return 1;
    }

    int as(int spot, int kind) {
        if (!in(spot, 0, 9) || !in(kind, 0, 6)) return f(Due.BEYOND);
        if (spots[spot] == null) return f(Due.MISSING);
        return CLASSES[kind].isInstance(promises.get(spots[spot])) ? spots[spot] : f(Due.KIND);
    }

    int sheet(int s, int width, int n) {
        if (!in(s, 0, 3) || !List.of(0, 8, 16, 32).contains(width)) return f(Due.BEYOND);
        if (n < 0) return f(Due.SIZE);
        if (n > 40) return f(Due.BEYOND);
        sheets[s] = width == 0 ? null : new int[n];
        bits[s] = width;
        return width == 0 ? 0 : n;
    }

    int write(int s, int i, int v) {
        if (!in(s, 0, 3)) return f(Due.BEYOND);
        if (sheets[s] == null) return f(Due.MISSING);
        if (!in(i, 0, sheets[s].length - 1)) return f(Due.BEYOND);
        sheets[s][i] = v << 32 - bits[s] >> 32 - bits[s];
        return 1;
    }

    int copy(int s, int from, int t, int to, int n) {
        if (!in(s, 0, 3) || !in(t, 0, 3)) return f(Due.BEYOND);
        if (sheets[s] == null || sheets[t] == null) return f(Due.MISSING);
        if (bits[s] != bits[t]) return f(Due.KIND);
        if (from < 0 || to < 0 || n < 0 || (long) from + n > sheets[s].length || (long) to + n > sheets[t].length) {
            return f(Due.BEYOND);
        }
        int[] was = sheets[s].clone();
        for (int i = 0; i < n; i++) sheets[t][to + i] = was[from + i];
        return n;
    }

    int load(int s) {
        if (!in(s, 0, 3)) return f(Due.BEYOND);
        if (sheets[s] == null) return f(Due.MISSING);
        int i = 0;
        while (i < sheets[s].length && i < promises.size() && in(sheets[s][i], 0, 49)) {
            promises.get(i).cost = sheets[s][i];
            i++;
        }
        return i;
    }

    int judge(int s) {
        if (!in(s, 0, 3)) return f(Due.BEYOND);
        if (sheets[s] == null) return f(Due.MISSING);
        int[] row = sheets[s];
        for (int i = 0; i < row.length; i += 2) {
            if (!in(row[i], 0, 255)) return 1 + i;
            if (i + 1 == row.length) return 1 + row.length;
            if (row[i + 1] != keptIn(row[i])) return 1 + i + 1;
        }
        return 0;
    }

    private static Model kept(Model m) {
        Model c = new Model();
        c.restore(m);
        return c;
    }

    private void restore(Model m) {
        a = m.a.clone();
        b = m.b.clone();
        promises = new ArrayList<>();
        for (Promise q : m.promises) add(q.kind, q.coin, q.second, q.thing, q.number, q.cost);
        needs = new ArrayList<>(m.needs);
        latest = m.latest;
        z = m.z;
        spots = m.spots.clone();
    }

    int image() {
        image = kept(this);
        return 1;
    }

    int undo() {
        if (image == null) return f(Due.NONE);
        restore(image);
        return promises.size();
    }

    int tear() {
        int had = image == null ? 0 : 1;
        image = null;
        return had;
    }

    int count(int what) {
        switch (what) {
            case 0: return promises.size();
            case 1: return needs.size();
            case 2: return latest == null ? -1 : latest;
            case 3: return tape.length();
            case 4: return z;
            case 5: return (int) whole();
            case 6: {
                int n = 0;
                for (Integer s : spots) if (s != null) n++;
                return n;
            }
            default: return f(Due.BEYOND);
        }
    }

    int status(int which) {
        if (!in(which, -1, 6)) return f(Due.BEYOND);
        int n = 0;
        for (int finding : findings) if (which == -1 || finding == -1000001 - which) n++;
        return n;
    }
}
