/**
 * Promises that are kept or broken by the fall of eight coins, and exact chances about them.
 * Findings are answered as numbers below -1000000; nothing is ever thrown.
 */
public final class PromiseCoins {
    private static final int BEYOND = -1000001;
    private static final int FULL = -1000002;
    private static final int KIND = -1000003;
    private static final int NONE = -1000004;
    private static final int MISSING = -1000006;
    private static final int SIZE = -1000007;
    private static final int FINDINGS = 7;

    private static final int COINS = 8;
    private static final int THROWS = 256;
    private static final int MOST_SIDES = 6;
    private static final int MOST_PROMISES = 10;
    private static final int SETS = 1024;
    private static final int MOST_NEEDS = 6;
    private static final int SPOTS = 10;
    private static final int MOST_BYTES = 120;
    private static final int SHEETS = 4;
    private static final int MOST_NUMBERS = 40;
    private static final int MOST_MUCH = 9999;
    private static final int MOST_BELOW = 999;
    private static final int MOST_TRIES = 100;
    private static final int NO_COIN = -1;
    private static final int NOTHING = -1;

    private static final int PLAIN = 0;
    private static final int IFFED = 1;
    private static final int EITHER = 2;
    private static final int BACK = 3;
    private static final int FREED = 4;
    private static final int TAILED = 5;
    private static final int CHAINED = 6;
    private static final int KINDS = 7;
    /** The kind above each kind; the topmost has none. */
    private static final int[] ABOVE = {-1, 0, 0, 1, 0, 2, 3};

    private static final int PART_THING = 3;
    private static final int PART_NUMBER = 4;
    private static final int PART_COST = 5;
    private static final int PARTS = 6;
    /** The least and the greatest that each part of a promise may be: kind, coin, second, thing, number, cost. */
    private static final int[] PART_LEAST = {0, 0, 0, 0, 1, 0};
    private static final int[] PART_MOST = {6, 7, 7, 5, 9, 49};

    private static final int NEED_PARTS = 3;
    /** The same of a need: thing, number, worth. */
    private static final int[] NEED_LEAST = {0, 1, 1};
    private static final int[] NEED_MOST = {5, 40, 99};

    private final Town now;
    private final Town saved;
    private boolean isSaved;
    private final Tape tape;
    private final Reader reader;
    private final Odds odds;
    private final Sheet[] sheets;
    private final int[] findings;

    public PromiseCoins() {
        now = new Town();
        saved = new Town();
        isSaved = false;
        tape = new Tape();
        reader = new Reader(tape);
        odds = new Odds(now);
        sheets = new Sheet[SHEETS];
        for (int s = 0; s < SHEETS; s++) {
            sheets[s] = new Sheet();
        }
        findings = new int[FINDINGS];
    }

    // ---- the town

    public int feed(int bytes, int n) {
        if (!isBetween(n, 1, 4)) {
            return refuse(BEYOND);
        }
        if (tape.length + n > MOST_BYTES) {
            return refuse(FULL);
        }
        tape.append(bytes, n);
        return tape.length;
    }

    public int wipe() {
        int had = tape.length;
        tape.length = 0;
        return had;
    }

    public int town() {
        int items = reader.readText(now);
        tape.length = 0;
        if (items < 0) {
            return -1 - reader.fault;
        }
        now.becomeAs(reader.draft);
        return items;
    }

    public int coin(int coin, int a, int b) {
        if (!isCoin(coin) || !isBetween(b, 1, MOST_SIDES) || !isBetween(a, 0, b)) {
            return refuse(BEYOND);
        }
        int was = 10 * now.above[coin] + now.below[coin];
        now.above[coin] = a;
        now.below[coin] = b;
        return was;
    }

    public int promise(int kind, int coin, int thing, int number) {
        if (!isKind(kind) || !isCoin(coin) || !fitsPart(PART_THING, thing) || !fitsPart(PART_NUMBER, number)) {
            return refuse(BEYOND);
        }
        if (now.promises >= MOST_PROMISES) {
            return refuse(FULL);
        }
        now.addPromise(kind, coin, coin, thing, number, 0);
        return now.promises - 1;
    }

    public int promiseOf(int promise, int what) {
        if (!isPromise(promise) || !isBetween(what, 0, PARTS - 1)) {
            return refuse(BEYOND);
        }
        return now.partOf(promise, what);
    }

    public int change(int promise, int what, int v) {
        if (!isPromise(promise) || !fitsPart(what, v)) {
            return refuse(BEYOND);
        }
        int was = now.partOf(promise, what);
        now.setPart(promise, what, v);
        return was;
    }

    public int drop() {
        if (now.promises <= 0) {
            return refuse(NONE);
        }
        now.dropLatest();
        return now.promises;
    }

    public int need(int thing, int number, int worth) {
        if (!fitsNeed(0, thing) || !fitsNeed(1, number) || !fitsNeed(2, worth)) {
            return refuse(BEYOND);
        }
        if (now.needs >= MOST_NEEDS) {
            return refuse(FULL);
        }
        now.addNeed(thing, number, worth);
        return now.needs - 1;
    }

    public int needOf(int need, int what) {
        if (!isNeed(need) || !isBetween(what, 0, NEED_PARTS - 1)) {
            return refuse(BEYOND);
        }
        if (what == 0) {
            return now.needThing[need];
        }
        return what == 1 ? now.needNumber[need] : now.needWorth[need];
    }

    // ---- throws

    public int cast() {
        now.latest = now.tossCoins();
        return now.latest;
    }

    public int lay(int coins) {
        if (!isThrow(coins)) {
            return refuse(BEYOND);
        }
        now.latest = coins;
        return 1;
    }

    public int kept() {
        if (now.latest < 0) {
            return refuse(NONE);
        }
        return now.keptIn(now.latest);
    }

    public int owes(int promises) {
        if (!isSet(promises)) {
            return refuse(BEYOND);
        }
        if (now.latest < 0) {
            return refuse(NONE);
        }
        return now.owedBy(promises, now.keptIn(now.latest));
    }

    public int brings(int promises, int thing) {
        if (!isSet(promises) || !fitsPart(PART_THING, thing)) {
            return refuse(BEYOND);
        }
        if (now.latest < 0) {
            return refuse(NONE);
        }
        return now.broughtBy(promises & now.keptIn(now.latest), thing);
    }

    public int met(int promises) {
        if (!isSet(promises)) {
            return refuse(BEYOND);
        }
        if (now.latest < 0) {
            return refuse(NONE);
        }
        return now.needsMetBy(promises & now.keptIn(now.latest));
    }

    // ---- chances

    public int weight(int coins) {
        if (!isThrow(coins)) {
            return refuse(BEYOND);
        }
        return now.weightOf(coins);
    }

    public int chance(int promise, int part) {
        if (!isPromise(promise) || !isPart(part)) {
            return refuse(BEYOND);
        }
        odds.gather();
        return odds.fraction(odds.weightOfAllKept(1 << promise), part);
    }

    public int joint(int one, int other, int what, int part) {
        if (!isPromise(one) || !isPromise(other) || !isBetween(what, 0, 2) || !isPart(part)) {
            return refuse(BEYOND);
        }
        odds.gather();
        int pair = 1 << one | 1 << other;
        long both = odds.weightOfAllKept(pair);
        if (what == 0) {
            return odds.fraction(both, part);
        }
        long either = odds.weightOfAnyKept(pair);
        return odds.fraction(what == 1 ? either : either - both, part);
    }

    public int sure(int need, int promises, int part) {
        if (!isNeed(need) || !isSet(promises) || !isPart(part)) {
            return refuse(BEYOND);
        }
        odds.gather();
        return odds.fraction(odds.weightOfMet(need, promises), part);
    }

    public int all(int promises, int part) {
        if (!isSet(promises) || !isPart(part)) {
            return refuse(BEYOND);
        }
        odds.gather();
        return odds.fraction(odds.weightOfAllMet(promises), part);
    }

    public int mean(int promises, int part) {
        if (!isSet(promises) || !isPart(part)) {
            return refuse(BEYOND);
        }
        odds.gather();
        return odds.fraction(odds.weighedOwed(promises), part);
    }

    public int worth(int promises, int part) {
        if (!isSet(promises) || !isPart(part)) {
            return refuse(BEYOND);
        }
        odds.gather();
        return odds.fraction(odds.weighedWorth(promises), part);
    }

    public int harm(int promises, int much, int part) {
        if (!isSet(promises) || !isBetween(much, 0, MOST_MUCH) || !isPart(part)) {
            return refuse(BEYOND);
        }
        odds.gather();
        return odds.fraction(odds.weightOfMore(promises, much), part);
    }

    public int likely(int promises) {
        if (!isSet(promises)) {
            return refuse(BEYOND);
        }
        odds.gather();
        return odds.likeliestCount(promises);
    }

    // ---- what to promise

    public int fewest(int need, int a, int b) {
        if (!isNeed(need) || !isRatio(a, b)) {
            return refuse(BEYOND);
        }
        odds.gather();
        int set = odds.fewestFor(need, a, b);
        return set < 0 ? refuse(NONE) : set;
    }

    public int cheapest(int need, int a, int b) {
        if (!isNeed(need) || !isRatio(a, b)) {
            return refuse(BEYOND);
        }
        odds.gather();
        int set = odds.cheapestFor(need, a, b);
        return set < 0 ? refuse(NONE) : set;
    }

    public int most(int much, int a, int b) {
        if (!isBetween(much, 0, MOST_MUCH) || !isRatio(a, b)) {
            return refuse(BEYOND);
        }
        odds.gather();
        return odds.mostWithin(much, a, b);
    }

    public int best() {
        odds.gather();
        return odds.bestSet();
    }

    // ---- coins

    public int helps() {
        return odds.helpingCoin();
    }

    public int hangs(int coin) {
        if (!isCoin(coin)) {
            return refuse(BEYOND);
        }
        odds.fillKeptSets();
        return odds.hangingBy(coin);
    }

    public int asks(int promise) {
        if (!isPromise(promise)) {
            return refuse(BEYOND);
        }
        odds.fillKeptSets();
        int coins = 0;
        for (int coin = 0; coin < COINS; coin++) {
            if (has(odds.hangingBy(coin), promise)) {
                coins |= 1 << coin;
            }
        }
        return coins;
    }

    public int apart(int one, int other) {
        if (!isPromise(one) || !isPromise(other) || one == other) {
            return refuse(BEYOND);
        }
        odds.gather();
        long both = odds.weightOfAllKept(1 << one | 1 << other);
        long first = odds.weightOfAllKept(1 << one);
        long second = odds.weightOfAllKept(1 << other);
        return both * now.wholeWeight() == first * second ? 1 : 0;
    }

    public int tries(int need, int promises, int n) {
        if (!isNeed(need) || !isSet(promises) || !isBetween(n, 1, MOST_TRIES)) {
            return refuse(BEYOND);
        }
        int hits = 0;
        for (int i = 0; i < n; i++) {
            int kept = now.keptIn(now.tossCoins());
            if (now.isMet(need, promises & kept)) {
                hits++;
            }
        }
        return hits;
    }

    public int seed(int v) {
        int was = now.z;
        now.z = v;
        return was;
    }

    // ---- spots, sheets

    public int hold(int spot, int promise) {
        if (!isSpot(spot) || promise != NOTHING && !isPromise(promise)) {
            return refuse(BEYOND);
        }
        now.spots[spot] = promise;
        return 1;
    }

    public int as(int spot, int kind) {
        if (!isSpot(spot) || !isKind(kind)) {
            return refuse(BEYOND);
        }
        int promise = now.spots[spot];
        if (!isPromise(promise)) {
            return refuse(MISSING);
        }
        return isUnder(now.kind[promise], kind) ? promise : refuse(KIND);
    }

    public int sheet(int s, int bits, int n) {
        if (!isSheet(s) || bits != 0 && bits != 8 && bits != 16 && bits != 32) {
            return refuse(BEYOND);
        }
        if (n < 0) {
            return refuse(SIZE);
        }
        if (n > MOST_NUMBERS) {
            return refuse(BEYOND);
        }
        sheets[s].begin(bits, bits == 0 ? 0 : n);
        return sheets[s].size;
    }

    public int write(int s, int i, int v) {
        if (!isSheet(s)) {
            return refuse(BEYOND);
        }
        if (sheets[s].isMissing()) {
            return refuse(MISSING);
        }
        if (!isBetween(i, 0, sheets[s].size - 1)) {
            return refuse(BEYOND);
        }
        sheets[s].put(i, v);
        return 1;
    }

    public int copy(int s, int from, int t, int to, int n) {
        if (!isSheet(s) || !isSheet(t)) {
            return refuse(BEYOND);
        }
        if (sheets[s].isMissing() || sheets[t].isMissing()) {
            return refuse(MISSING);
        }
        if (sheets[s].bits != sheets[t].bits) {
            return refuse(KIND);
        }
        if (!sheets[s].hasSpan(from, n) || !sheets[t].hasSpan(to, n)) {
            return refuse(BEYOND);
        }
        System.arraycopy(sheets[s].numbers, from, sheets[t].numbers, to, n);
        return n;
    }

    public int load(int s) {
        if (!isSheet(s)) {
            return refuse(BEYOND);
        }
        if (sheets[s].isMissing()) {
            return refuse(MISSING);
        }
        int come = 0;
        for (int i = 0; i < sheets[s].size && i < now.promises; i++) {
            if (!fitsPart(PART_COST, sheets[s].numbers[i])) {
                break;
            }
            now.cost[i] = sheets[s].numbers[i];
            come++;
        }
        return come;
    }

    public int judge(int s) {
        if (!isSheet(s)) {
            return refuse(BEYOND);
        }
        if (sheets[s].isMissing()) {
            return refuse(MISSING);
        }
        return sheets[s].firstWrong(now);
    }

    // ---- images

    public int image() {
        saved.becomeAs(now);
        isSaved = true;
        return 1;
    }

    public int undo() {
        if (!isSaved) {
            return refuse(NONE);
        }
        now.becomeAs(saved);
        return now.promises;
    }

    public int tear() {
        int had = isSaved ? 1 : 0;
        isSaved = false;
        return had;
    }

    public int count(int what) {
        switch (what) {
            case 0:
                return now.promises;
            case 1:
                return now.needs;
            case 2:
                return now.latest;
            case 3:
                return tape.length;
            case 4:
                return now.z;
            case 5:
                return now.wholeWeight();
            case 6:
                return now.heldSpots();
            default:
                return refuse(BEYOND);
        }
    }

    public int status(int which) {
        if (!isBetween(which, -1, FINDINGS - 1)) {
            return refuse(BEYOND);
        }
        if (which >= 0) {
            return findings[which];
        }
        int sum = 0;
        for (int i = 0; i < FINDINGS; i++) {
            sum += findings[i];
        }
        return sum;
    }

    // ---- what arguments may be

    private int refuse(int finding) {
        int place = BEYOND - finding;
        if (isBetween(place, 0, FINDINGS - 1)) {
            findings[place]++;
        }
        return finding;
    }

    private boolean isPromise(int promise) {
        return promise >= 0 && promise < now.promises;
    }

    private boolean isNeed(int need) {
        return need >= 0 && need < now.needs;
    }

    private boolean isSet(int promises) {
        return promises >= 0 && promises < 1 << now.promises;
    }

    private static boolean isBetween(int v, int least, int greatest) {
        return v >= least && v <= greatest;
    }

    private static boolean isCoin(int coin) {
        return isBetween(coin, 0, COINS - 1);
    }

    private static boolean isThrow(int coins) {
        return isBetween(coins, 0, THROWS - 1);
    }

    private static boolean isKind(int kind) {
        return isBetween(kind, 0, KINDS - 1);
    }

    private static boolean isPart(int part) {
        return isBetween(part, 0, 1);
    }

    private static boolean isRatio(int a, int b) {
        return isBetween(b, 1, MOST_BELOW) && isBetween(a, 0, b);
    }

    private static boolean isSpot(int spot) {
        return isBetween(spot, 0, SPOTS - 1);
    }

    private static boolean isSheet(int s) {
        return isBetween(s, 0, SHEETS - 1);
    }

    private static boolean fitsPart(int what, int v) {
        return isBetween(what, 0, PARTS - 1) && isBetween(v, PART_LEAST[what], PART_MOST[what]);
    }

    private static boolean fitsNeed(int what, int v) {
        return isBetween(what, 0, NEED_PARTS - 1) && isBetween(v, NEED_LEAST[what], NEED_MOST[what]);
    }

    private static boolean has(int set, int member) {
        return (set >> member & 1) == 1;
    }

    private static boolean isUnder(int kind, int top) {
        int k = kind;
        for (int i = 0; i < KINDS && isKind(k); i++) {
            if (k == top) {
                return true;
            }
            k = ABOVE[k];
        }
        return false;
    }

    /** All that an image keeps: coins, promises, needs, the latest throw, z and the spots. */
    private static final class Town {
        final int[] above = new int[COINS];
        final int[] below = new int[COINS];
        final int[] kind = new int[MOST_PROMISES];
        final int[] coin = new int[MOST_PROMISES];
        final int[] second = new int[MOST_PROMISES];
        final int[] thing = new int[MOST_PROMISES];
        final int[] number = new int[MOST_PROMISES];
        final int[] cost = new int[MOST_PROMISES];
        int promises;
        final int[] needThing = new int[MOST_NEEDS];
        final int[] needNumber = new int[MOST_NEEDS];
        final int[] needWorth = new int[MOST_NEEDS];
        int needs;
        int latest;
        int z;
        final int[] spots = new int[SPOTS];

        Town() {
            for (int i = 0; i < COINS; i++) {
                above[i] = 1;
                below[i] = 2;
            }
            for (int i = 0; i < SPOTS; i++) {
                spots[i] = NOTHING;
            }
            promises = 0;
            needs = 0;
            latest = NOTHING;
            z = 1;
        }

        void becomeAs(Town other) {
            System.arraycopy(other.above, 0, above, 0, COINS);
            System.arraycopy(other.below, 0, below, 0, COINS);
            System.arraycopy(other.kind, 0, kind, 0, MOST_PROMISES);
            System.arraycopy(other.coin, 0, coin, 0, MOST_PROMISES);
            System.arraycopy(other.second, 0, second, 0, MOST_PROMISES);
            System.arraycopy(other.thing, 0, thing, 0, MOST_PROMISES);
            System.arraycopy(other.number, 0, number, 0, MOST_PROMISES);
            System.arraycopy(other.cost, 0, cost, 0, MOST_PROMISES);
            promises = other.promises;
            System.arraycopy(other.needThing, 0, needThing, 0, MOST_NEEDS);
            System.arraycopy(other.needNumber, 0, needNumber, 0, MOST_NEEDS);
            System.arraycopy(other.needWorth, 0, needWorth, 0, MOST_NEEDS);
            needs = other.needs;
            latest = other.latest;
            z = other.z;
            System.arraycopy(other.spots, 0, spots, 0, SPOTS);
        }

        void addPromise(int itsKind, int itsCoin, int itsSecond, int itsThing, int itsNumber, int itsCost) {
            if (promises < 0 || promises >= MOST_PROMISES) {
                return;
            }
            kind[promises] = itsKind;
            coin[promises] = itsCoin;
            second[promises] = itsSecond;
            thing[promises] = itsThing;
            number[promises] = itsNumber;
            cost[promises] = itsCost;
            promises++;
        }

        void dropLatest() {
            if (promises <= 0) {
                return;
            }
            promises--;
            for (int i = 0; i < SPOTS; i++) {
                if (spots[i] == promises) {
                    spots[i] = NOTHING;
                }
            }
        }

        void addNeed(int itsThing, int itsNumber, int itsWorth) {
            if (needs < 0 || needs >= MOST_NEEDS) {
                return;
            }
            needThing[needs] = itsThing;
            needNumber[needs] = itsNumber;
            needWorth[needs] = itsWorth;
            needs++;
        }

        int partOf(int promise, int what) {
            switch (what) {
                case 0:
                    return kind[promise];
                case 1:
                    return coin[promise];
                case 2:
                    return second[promise];
                case PART_THING:
                    return thing[promise];
                case PART_NUMBER:
                    return number[promise];
                default:
                    return cost[promise];
            }
        }

        void setPart(int promise, int what, int v) {
            switch (what) {
                case 0:
                    kind[promise] = v;
                    break;
                case 1:
                    coin[promise] = v;
                    break;
                case 2:
                    second[promise] = v;
                    break;
                case PART_THING:
                    thing[promise] = v;
                    break;
                case PART_NUMBER:
                    number[promise] = v;
                    break;
                default:
                    cost[promise] = v;
                    break;
            }
        }

        int drawNext() {
            z = z * 1103515245 + 12345;
            return z >>> 8;
        }

        int tossCoins() {
            int heads = 0;
            for (int i = 0; i < COINS; i++) {
                int drawn = drawNext();
                if (below[i] > 0 && drawn % below[i] < above[i]) {
                    heads |= 1 << i;
                }
            }
            return heads;
        }

        int weightOf(int heads) {
            int product = 1;
            for (int i = 0; i < COINS; i++) {
                product *= has(heads, i) ? above[i] : below[i] - above[i];
            }
            return product;
        }

        int wholeWeight() {
            int product = 1;
            for (int i = 0; i < COINS; i++) {
                product *= below[i];
            }
            return product;
        }

        int heldSpots() {
            int held = 0;
            for (int i = 0; i < SPOTS; i++) {
                if (spots[i] != NOTHING) {
                    held++;
                }
            }
            return held;
        }

        int keptIn(int heads) {
            int set = 0;
            for (int i = 0; i < promises; i++) {
                if (isKept(i, heads, set)) {
                    set |= 1 << i;
                }
            }
            return set;
        }

        /** Those ahead are handed in, since a chained one asks for the one ahead of it. */
        boolean isKept(int promise, int heads, int keptAhead) {
            boolean first = has(heads, coin[promise]);
            boolean other = has(heads, second[promise]);
            switch (kind[promise]) {
                case IFFED:
                case BACK:
                    return first && other;
                case EITHER:
                    return first || other;
                case TAILED:
                    return !first && !other;
                case CHAINED:
                    return first && other && (promise == 0 || has(keptAhead, promise - 1));
                default:
                    return first;
            }
        }

        int owedOf(int promise, boolean isKept) {
            switch (kind[promise]) {
                case BACK:
                    return isKept ? cost[promise] : 1;
                case CHAINED:
                    return isKept ? 2 * cost[promise] : 2;
                case FREED:
                    return isKept ? cost[promise] / 2 : 0;
                default:
                    return isKept ? cost[promise] : 0;
            }
        }

        int owedBy(int set, int kept) {
            int sum = 0;
            for (int i = 0; i < promises; i++) {
                if (has(set, i)) {
                    sum += owedOf(i, has(kept, i));
                }
            }
            return sum;
        }

        int broughtBy(int keptOnes, int ofThing) {
            int sum = 0;
            for (int i = 0; i < promises; i++) {
                if (has(keptOnes, i) && thing[i] == ofThing) {
                    sum += number[i];
                }
            }
            return sum;
        }

        boolean isMet(int need, int keptOnes) {
            return broughtBy(keptOnes, needThing[need]) >= needNumber[need];
        }

        int needsMetBy(int keptOnes) {
            int set = 0;
            for (int i = 0; i < needs; i++) {
                if (isMet(i, keptOnes)) {
                    set |= 1 << i;
                }
            }
            return set;
        }

        int worthMetBy(int keptOnes) {
            int sum = 0;
            for (int i = 0; i < needs; i++) {
                if (isMet(i, keptOnes)) {
                    sum += needWorth[i];
                }
            }
            return sum;
        }
    }

    /**
     * Chances over all throws of a town. Its rows are made once and used again by every call,
     * since a run has room for few objects; nothing in them outlives a call.
     */
    private static final class Odds {
        final Town town;
        final int[] weights = new int[THROWS];
        final int[] keptSets = new int[THROWS];
        /** The cases: sets that are all that is kept in some throw, with the weight of all such throws. */
        final int[] caseSets = new int[THROWS];
        final int[] caseWeights = new int[THROWS];
        int cases;
        final long[] together = new long[SETS];
        final long[] gains = new long[SETS];
        final long[] costs = new long[SETS];
        final int[] brought = new int[SETS];
        final int[] counts = new int[MOST_PROMISES + 1];

        Odds(Town itsTown) {
            town = itsTown;
            cases = 0;
        }

        int sets() {
            return Math.min(1 << town.promises, SETS);
        }

        /** A sure coin counts as b in b: as surely heads as 1 in 1, and the whole weight stays the same. */
        void fillWeights(int sureCoin) {
            weights[0] = 1;
            int filled = 1;
            for (int i = 0; i < COINS && 2 * filled <= THROWS; i++) {
                int up = i == sureCoin ? town.below[i] : town.above[i];
                int down = town.below[i] - up;
                for (int heads = 0; heads < filled; heads++) {
                    weights[filled + heads] = weights[heads] * up;
                    weights[heads] *= down;
                }
                filled *= 2;
            }
        }

        void fillKeptSets() {
            for (int heads = 0; heads < THROWS; heads++) {
                keptSets[heads] = town.keptIn(heads);
            }
        }

        /** Throws in which the same promises are kept are one case: there are far fewer of them, mostly. */
        void gather() {
            fillWeights(NO_COIN);
            fillKeptSets();
            fillTogether();
            cases = 0;
            for (int set = 0; set < sets() && cases < THROWS; set++) {
                if (together[set] > 0) {
                    caseSets[cases] = set;
                    caseWeights[cases] = (int) together[set];
                    cases++;
                }
            }
        }

        void fillTogether() {
            int sets = sets();
            for (int set = 0; set < sets; set++) {
                together[set] = 0;
            }
            for (int heads = 0; heads < THROWS; heads++) {
                if (keptSets[heads] < sets) {
                    together[keptSets[heads]] += weights[heads];
                }
            }
        }

        int fraction(long above, int part) {
            long whole = town.wholeWeight();
            long divisor = commonDivisor(above, whole);
            if (divisor <= 0) {
                return part;
            }
            return (int) ((part == 0 ? above : whole) / divisor);
        }

        static long commonDivisor(long one, long other) {
            long a = one;
            long b = other;
            for (int i = 0; i < 100 && b != 0; i++) {
                long rest = a % b;
                a = b;
                b = rest;
            }
            return a;
        }

        long weightOfAllKept(int set) {
            long sum = 0;
            for (int c = 0; c < cases; c++) {
                if ((caseSets[c] & set) == set) {
                    sum += caseWeights[c];
                }
            }
            return sum;
        }

        long weightOfAnyKept(int set) {
            long sum = 0;
            for (int c = 0; c < cases; c++) {
                if ((caseSets[c] & set) != 0) {
                    sum += caseWeights[c];
                }
            }
            return sum;
        }

        long weightOfMet(int need, int set) {
            long sum = 0;
            for (int c = 0; c < cases; c++) {
                if (town.isMet(need, caseSets[c] & set)) {
                    sum += caseWeights[c];
                }
            }
            return sum;
        }

        long weightOfAllMet(int set) {
            int allNeeds = (1 << town.needs) - 1;
            long sum = 0;
            for (int c = 0; c < cases; c++) {
                if (town.needsMetBy(caseSets[c] & set) == allNeeds) {
                    sum += caseWeights[c];
                }
            }
            return sum;
        }

        long weighedOwed(int set) {
            long sum = 0;
            for (int c = 0; c < cases; c++) {
                sum += (long) town.owedBy(set, caseSets[c]) * caseWeights[c];
            }
            return sum;
        }

        long weighedWorth(int set) {
            long sum = 0;
            for (int c = 0; c < cases; c++) {
                sum += (long) town.worthMetBy(caseSets[c] & set) * caseWeights[c];
            }
            return sum;
        }

        long weightOfMore(int set, int much) {
            long sum = 0;
            for (int c = 0; c < cases; c++) {
                if (town.owedBy(set, caseSets[c]) > much) {
                    sum += caseWeights[c];
                }
            }
            return sum;
        }

        int likeliestCount(int set) {
            for (int i = 0; i <= MOST_PROMISES; i++) {
                counts[i] = 0;
            }
            for (int c = 0; c < cases; c++) {
                int kept = Integer.bitCount(caseSets[c] & set);
                if (kept <= MOST_PROMISES) {
                    counts[kept] += caseWeights[c];
                }
            }
            int likeliest = 0;
            for (int i = 1; i <= MOST_PROMISES; i++) {
                if (counts[i] > counts[likeliest]) {
                    likeliest = i;
                }
            }
            return likeliest;
        }

        int fewestFor(int need, int a, int b) {
            fillGainsOfNeed(need);
            weighGains();
            long asked = (long) a * town.wholeWeight();
            int found = NOTHING;
            for (int set = 0; set < sets(); set++) {
                if (gains[set] * b >= asked
                        && (found == NOTHING || Integer.bitCount(set) < Integer.bitCount(found))) {
                    found = set;
                }
            }
            return found;
        }

        int cheapestFor(int need, int a, int b) {
            fillGainsOfNeed(need);
            weighGains();
            fillWeighedCosts();
            long asked = (long) a * town.wholeWeight();
            int found = NOTHING;
            for (int set = 0; set < sets(); set++) {
                if (gains[set] * b >= asked && (found == NOTHING || costs[set] < costs[found])) {
                    found = set;
                }
            }
            return found;
        }

        int mostWithin(int much, int a, int b) {
            fillOwedRows();
            long allowed = (long) a * town.wholeWeight();
            int found = 0;
            for (int set = 1; set < sets(); set++) {
                if (Integer.bitCount(set) > Integer.bitCount(found)
                        && weightOfMoreByRows(set, much) * b <= allowed) {
                    found = set;
                }
            }
            return found;
        }

        int bestSet() {
            fillGainsOfWorth();
            weighGains();
            fillWeighedCosts();
            int found = 0;
            for (int set = 1; set < sets(); set++) {
                if (gains[set] - costs[set] > gains[found] - costs[found]) {
                    found = set;
                }
            }
            return found;
        }

        int helpingCoin() {
            fillKeptSets();
            fillGainsOfWorth();
            int found = 0;
            long most = -1;
            for (int coin = 0; coin < COINS; coin++) {
                fillWeights(coin);
                long sum = 0;
                for (int heads = 0; heads < THROWS; heads++) {
                    sum += weights[heads] * gains[keptSets[heads]];
                }
                if (sum > most) {
                    most = sum;
                    found = coin;
                }
            }
            return found;
        }

        int hangingBy(int coin) {
            int set = 0;
            for (int heads = 0; heads < THROWS; heads++) {
                set |= keptSets[heads] ^ keptSets[(heads ^ 1 << coin) & THROWS - 1];
            }
            return set;
        }

        void clearGains() {
            for (int set = 0; set < sets(); set++) {
                gains[set] = 0;
            }
        }

        void fillGainsOfNeed(int need) {
            clearGains();
            addGains(need, 1);
        }

        void fillGainsOfWorth() {
            clearGains();
            for (int need = 0; need < town.needs; need++) {
                addGains(need, town.needWorth[need]);
            }
        }

        /** Each set that meets the need, were all of it kept, gains so much. */
        void addGains(int need, int gain) {
            brought[0] = 0;
            for (int set = 1; set < sets(); set++) {
                int lowest = Integer.numberOfTrailingZeros(set);
                int more = town.thing[lowest] == town.needThing[need] ? town.number[lowest] : 0;
                brought[set] = brought[set & set - 1] + more;
                if (brought[set] >= town.needNumber[need]) {
                    gains[set] += gain;
                }
            }
        }

        /**
         * Turns what each set gains if all of it is kept into the sum, over all throws, of weight times
         * what the kept ones of the set gain. The gain of a set is the sum over its subsets of what each
         * adds to its own smaller ones, and a subset adds it in just those throws in which all of it is
         * kept: so all sets are weighed at once, where one after the other would take far longer.
         */
        void weighGains() {
            int sets = sets();
            fillTogether();
            for (int bit = 1; bit < sets; bit *= 2) {
                for (int set = 0; set < sets; set++) {
                    if ((set & bit) == 0) {
                        together[set] += together[set | bit];
                    } else {
                        gains[set] -= gains[set ^ bit];
                    }
                }
            }
            for (int set = 0; set < sets; set++) {
                gains[set] *= together[set];
            }
            for (int bit = 1; bit < sets; bit *= 2) {
                for (int set = 0; set < sets; set++) {
                    if ((set & bit) != 0) {
                        gains[set] += gains[set ^ bit];
                    }
                }
            }
        }

        /** What a set owes is a sum over its promises, and so is its mean: each is weighed alone. */
        void fillWeighedCosts() {
            costs[0] = 0;
            long whole = town.wholeWeight();
            for (int set = 1; set < sets(); set++) {
                int lowest = Integer.numberOfTrailingZeros(set);
                if ((set & set - 1) == 0) {
                    long keptWeight = weightOfAllKept(set);
                    costs[set] = keptWeight * town.owedOf(lowest, true)
                            + (whole - keptWeight) * town.owedOf(lowest, false);
                } else {
                    costs[set] = costs[set & set - 1] + costs[1 << lowest];
                }
            }
        }

        /** What each set owes if none of it is kept, as costs, and how much more if all is, as gains. */
        void fillOwedRows() {
            costs[0] = 0;
            gains[0] = 0;
            for (int set = 1; set < sets(); set++) {
                int lowest = Integer.numberOfTrailingZeros(set);
                int rest = set & set - 1;
                int broken = town.owedOf(lowest, false);
                costs[set] = costs[rest] + broken;
                gains[set] = gains[rest] + town.owedOf(lowest, true) - broken;
            }
        }

        long weightOfMoreByRows(int set, int much) {
            long sum = 0;
            for (int c = 0; c < cases; c++) {
                if (costs[set] + gains[set & caseSets[c]] > much) {
                    sum += caseWeights[c];
                }
            }
            return sum;
        }
    }

    /** The bytes that were fed. */
    private static final class Tape {
        final int[] bytes = new int[MOST_BYTES];
        int length;

        Tape() {
            length = 0;
        }

        void append(int number, int n) {
            for (int i = n - 1; i >= 0 && length < MOST_BYTES; i--) {
                bytes[length] = number >> 8 * i & 255;
                length++;
            }
        }
    }

    /** Reads the tape as a text, into a draft of the town: so a text with a fault changes nothing. */
    private static final class Reader {
        static final int END = 0;
        static final int WORD = 1;
        static final int NUMBER = 2;
        static final int SIGN = 3;
        static final int OTHER = 4;
        static final int TOO_MUCH = 1000;

        final Tape tape;
        final Town draft = new Town();
        int sort;
        int start;
        int end;
        int value;
        int fault;

        Reader(Tape itsTape) {
            tape = itsTape;
            sort = END;
            start = 0;
            end = 0;
            value = 0;
            fault = 0;
        }

        /** How many items there are, or below 0 if there is a fault. */
        int readText(Town town) {
            draft.becomeAs(town);
            end = 0;
            stepOn();
            for (int items = 1; items <= MOST_BYTES; items++) {
                if (!readItem()) {
                    return -1;
                }
                if (sort == END) {
                    return items;
                }
                if (sort != SIGN) {
                    break;
                }
                stepOn();
            }
            fault = start;
            return -1;
        }

        void stepOn() {
            start = end;
            while (start < tape.length && tape.bytes[start] == ' ') {
                start++;
            }
            end = start;
            sort = sortAt(start);
            value = 0;
            while (end < tape.length && sortAt(end) == sort) {
                if (sort == NUMBER) {
                    value = Math.min(value * 10 + tape.bytes[end] - '0', TOO_MUCH);
                }
                end++;
                if (sort == SIGN || sort == OTHER) {
                    break;
                }
            }
        }

        int sortAt(int place) {
            if (place < 0 || place >= tape.length) {
                return END;
            }
            int sign = tape.bytes[place];
            if (sign >= 'a' && sign <= 'z') {
                return WORD;
            }
            if (sign >= '0' && sign <= '9') {
                return NUMBER;
            }
            return sign == ';' ? SIGN : OTHER;
        }

        boolean isWord(String word) {
            if (sort != WORD || end - start != word.length()) {
                return false;
            }
            for (int i = 0; i < word.length(); i++) {
                if (tape.bytes[start + i] != word.charAt(i)) {
                    return false;
                }
            }
            return true;
        }

        int kindOfWord() {
            for (int kind = 0; kind < KINDS; kind++) {
                if (isWord(wordOfKind(kind))) {
                    return kind;
                }
            }
            return -1;
        }

        static String wordOfKind(int kind) {
            switch (kind) {
                case PLAIN:
                    return "promise";
                case IFFED:
                    return "iffed";
                case EITHER:
                    return "either";
                case BACK:
                    return "back";
                case FREED:
                    return "freed";
                case TAILED:
                    return "tailed";
                default:
                    return "chained";
            }
        }

        /** The number, or -1 at a fault: no number of a text is below 0. */
        int takeNumber(int least, int greatest) {
            if (sort != NUMBER || value < least || value > greatest) {
                fault = start;
                return -1;
            }
            int taken = value;
            stepOn();
            return taken;
        }

        boolean passWord(String word) {
            if (!isWord(word)) {
                return false;
            }
            stepOn();
            return true;
        }

        boolean faultHere() {
            fault = start;
            return false;
        }

        boolean readItem() {
            if (isWord("coin")) {
                return readCoin();
            }
            if (isWord("need")) {
                return readNeed();
            }
            int kind = kindOfWord();
            return kind < 0 ? faultHere() : readPromise(kind);
        }

        boolean readCoin() {
            stepOn();
            int coin = takeNumber(0, COINS - 1);
            if (coin < 0) {
                return false;
            }
            int a = takeNumber(0, MOST_SIDES);
            if (a < 0) {
                return false;
            }
            if (!passWord("in")) {
                return faultHere();
            }
            int b = takeNumber(Math.max(1, a), MOST_SIDES);
            if (b < 0) {
                return false;
            }
            draft.above[coin] = a;
            draft.below[coin] = b;
            return true;
        }

        boolean readPromise(int kind) {
            if (draft.promises >= MOST_PROMISES) {
                return faultHere();
            }
            stepOn();
            int coin = takeNumber(0, COINS - 1);
            if (coin < 0) {
                return false;
            }
            int second = passWord("with") ? takeNumber(0, COINS - 1) : coin;
            if (second < 0) {
                return false;
            }
            if (!passWord("brings")) {
                return faultHere();
            }
            int thing = takeNumber(PART_LEAST[PART_THING], PART_MOST[PART_THING]);
            if (thing < 0) {
                return false;
            }
            int number = takeNumber(PART_LEAST[PART_NUMBER], PART_MOST[PART_NUMBER]);
            if (number < 0) {
                return false;
            }
            int cost = passWord("cost") ? takeNumber(PART_LEAST[PART_COST], PART_MOST[PART_COST]) : 0;
            if (cost < 0) {
                return false;
            }
            draft.addPromise(kind, coin, second, thing, number, cost);
            return true;
        }

        boolean readNeed() {
            if (draft.needs >= MOST_NEEDS) {
                return faultHere();
            }
            stepOn();
            int thing = takeNumber(NEED_LEAST[0], NEED_MOST[0]);
            if (thing < 0) {
                return false;
            }
            int number = takeNumber(NEED_LEAST[1], NEED_MOST[1]);
            if (number < 0) {
                return false;
            }
            int worth = passWord("worth") ? takeNumber(NEED_LEAST[2], NEED_MOST[2]) : 1;
            if (worth < 0) {
                return false;
            }
            draft.addNeed(thing, number, worth);
            return true;
        }
    }

    /** A row of numbers of 8, 16 or 32 bits; of 0 bits it is missing. */
    private static final class Sheet {
        final int[] numbers = new int[MOST_NUMBERS];
        int bits;
        int size;

        Sheet() {
            bits = 0;
            size = 0;
        }

        boolean isMissing() {
            return bits == 0;
        }

        void begin(int itsBits, int itsSize) {
            bits = itsBits;
            size = Math.max(0, Math.min(itsSize, MOST_NUMBERS));
            for (int i = 0; i < size; i++) {
                numbers[i] = 0;
            }
        }

        void put(int i, int v) {
            if (!isBetween(i, 0, size - 1)) {
                return;
            }
            if (bits == 8) {
                numbers[i] = (byte) v;
            } else if (bits == 16) {
                numbers[i] = (short) v;
            } else {
                numbers[i] = v;
            }
        }

        /** Written by a difference, since from and n together may go beyond an int. */
        boolean hasSpan(int from, int n) {
            return from >= 0 && n >= 0 && from <= size && n <= size - from;
        }

        /** 0, or 1 and the place of the first number that is not right: throws stand at even places. */
        int firstWrong(Town town) {
            for (int i = 0; i < size; i++) {
                boolean isRight = i % 2 == 0
                        ? isThrow(numbers[i])
                        : numbers[i] == town.keptIn(numbers[i - 1]);
                if (!isRight) {
                    return 1 + i;
                }
            }
            return size % 2 == 0 ? 0 : 1 + size;
        }
    }
}
