/** Promises 12 to 26: throws, and chances of what comes by them. */
public final class ChancesTest {
    private static final Due due = new Due();

    public static void main(String[] args) {
        cast();
        lay();
        keptByKind();
        keptInAChain();
        owes();
        brings();
        met();
        weight();
        chance();
        joint();
        sure();
        all();
        mean();
        worth();
        harm();
        likely();
        greatestFractions();
        eachThrowItsOwnCase();
        due.end();
    }

    private static void cast() {
        due.at("12 cast");
        PromiseCoins x = new PromiseCoins();
        int[][] coins = {{1, 2}, {0, 6}, {6, 6}, {1, 3}, {2, 5}, {5, 6}, {1, 1}, {3, 4}};
        for (int i = 0; i < 8; i++) {
            x.coin(i, coins[i][0], coins[i][1]);
        }
        int z = 1;
        for (int n = 0; n < 60; n++) {
            int heads = 0;
            for (int i = 0; i < 8; i++) {
                z = z * 1103515245 + 12345;
                if ((z >>> 8) % coins[i][1] < coins[i][0]) {
                    heads |= 1 << i;
                }
            }
            due.is("cast", x.cast(), heads);
            due.is("latest", x.count(2), heads);
            due.is("z", x.count(4), z);
        }
        PromiseCoins y = new PromiseCoins();
        y.seed(-77);
        int first = y.cast();
        y.seed(-77);
        due.is("the same seed, the same throw", y.cast(), first);
    }

    private static void lay() {
        due.at("13 lay");
        PromiseCoins x = new PromiseCoins();
        due.is("below", x.lay(-1), Due.BEYOND);
        due.is("above", x.lay(256), Due.BEYOND);
        due.is("none yet", x.count(2), -1);
        due.is("least", x.lay(0), 1);
        due.is("it is", x.count(2), 0);
        due.is("greatest", x.lay(255), 1);
        due.is("it is", x.count(2), 255);
        due.is("above again", x.lay(Integer.MAX_VALUE), Due.BEYOND);
        due.is("it stays", x.count(2), 255);
    }

    /** One promise of each kind, by coins 2 and 5. */
    private static PromiseCoins kinds() {
        PromiseCoins x = new PromiseCoins();
        for (int kind = 0; kind < 7; kind++) {
            x.promise(kind, 2, kind % 6, 1 + kind);
            x.change(kind, 2, 5);
            x.change(kind, 5, 11);
        }
        return x;
    }

    private static void keptByKind() {
        due.at("14 kept");
        PromiseCoins x = kinds();
        due.is("none", x.kept(), Due.NONE);
        x.lay(0);
        due.is("neither: tailed", x.kept(), 1 << 5);
        x.lay(255 - 4 - 32);
        due.is("other coins do nothing", x.kept(), 1 << 5);
        x.lay(4);
        due.is("coin: promise, either, freed", x.kept(), 1 | 1 << 2 | 1 << 4);
        x.lay(32);
        due.is("second: either", x.kept(), 1 << 2);
        x.lay(36);
        due.is("both: all but tailed, and chained behind it", x.kept(), 1 | 2 | 4 | 8 | 16);
        x.change(5, 0, 0);
        due.is("chained behind one that is kept", x.kept(), 127);
        x.promise(0, 0, 0, 1);
        due.is("a new one in the same throw", x.kept(), 127);
        x.change(7, 1, 2);
        due.is("it is kept", x.kept(), 255);
    }

    private static void keptInAChain() {
        due.at("14 kept, chained");
        PromiseCoins x = new PromiseCoins();
        for (int i = 0; i < 8; i++) {
            x.promise(6, i, 0, 1);
        }
        x.lay(255);
        due.is("number 0 asks for none", x.kept(), 255);
        x.lay(255 - 16);
        due.is("broken at 4", x.kept(), 15);
        x.lay(254);
        due.is("broken at 0", x.kept(), 0);
        x.change(1, 0, 3);
        due.is("back at 1 begins anew", x.kept(), 254);
        x.change(1, 2, 0);
        due.is("it asks for its second", x.kept(), 0);
    }

    private static void owes() {
        due.at("15 owes");
        PromiseCoins x = kinds();
        due.is("none", x.owes(127), Due.NONE);
        due.is("beyond ahead of none", x.owes(128), Due.BEYOND);
        x.lay(36);
        int[] both = {11, 11, 11, 11, 5, 0, 2};
        for (int i = 0; i < 7; i++) {
            due.is("both, kind " + i, x.owes(1 << i), both[i]);
        }
        due.is("all", x.owes(127), 51);
        x.lay(0);
        int[] neither = {0, 0, 0, 1, 0, 11, 2};
        for (int i = 0; i < 7; i++) {
            due.is("neither, kind " + i, x.owes(1 << i), neither[i]);
        }
        due.is("nothing", x.owes(0), 0);
        x.change(5, 0, 0);
        x.lay(36);
        due.is("a kept chained one", x.owes(64), 22);
        x.change(6, 5, 49);
        due.is("twice 49", x.owes(64), 98);
        x.lay(4);
        due.is("freed by its coin", x.owes(16), 5);
        due.is("back is not kept", x.owes(8), 1);
        due.is("above", x.owes(128), Due.BEYOND);
        due.is("below", x.owes(-1), Due.BEYOND);
        due.is("below", x.owes(Integer.MIN_VALUE), Due.BEYOND);
        due.is("above", x.owes(Integer.MAX_VALUE), Due.BEYOND);
        x.change(3, 5, 0);
        x.lay(36);
        due.is("kept at no cost", x.owes(8), 0);
    }

    private static void brings() {
        due.at("16 brings");
        PromiseCoins x = new PromiseCoins();
        x.promise(0, 0, 3, 5);
        x.promise(0, 1, 3, 9);
        x.promise(0, 0, 4, 2);
        due.is("none", x.brings(7, 3), Due.NONE);
        due.is("beyond ahead of none", x.brings(8, 3), Due.BEYOND);
        due.is("thing ahead of none", x.brings(7, 6), Due.BEYOND);
        x.lay(1);
        due.is("one of two", x.brings(7, 3), 5);
        due.is("other thing", x.brings(7, 4), 2);
        due.is("not of the set", x.brings(6, 3), 0);
        x.lay(3);
        due.is("both", x.brings(7, 3), 14);
        due.is("none of it", x.brings(7, 0), 0);
        due.is("thing below", x.brings(7, -1), Due.BEYOND);
        due.is("set below", x.brings(-1, 0), Due.BEYOND);
        x.lay(0);
        due.is("a throw without heads is one", x.brings(7, 3), 0);
    }

    private static void met() {
        due.at("17 met");
        PromiseCoins x = new PromiseCoins();
        x.promise(0, 0, 3, 5);
        x.promise(0, 1, 3, 9);
        x.promise(6, 2, 4, 2);
        x.need(3, 14, 1);
        x.need(3, 5, 1);
        x.need(4, 2, 1);
        x.need(0, 1, 1);
        due.is("none", x.met(7), Due.NONE);
        due.is("beyond ahead of none", x.met(8), Due.BEYOND);
        x.lay(7);
        due.is("just enough", x.met(7), 7);
        due.is("set", x.met(1), 2);
        due.is("chained asks for one outside of the set", x.met(4), 4);
        x.lay(5);
        due.is("broken ahead", x.met(4), 0);
        due.is("nothing", x.met(0), 0);
        due.is("below", x.met(-1), Due.BEYOND);
        x.lay(0);
        due.is("a throw without heads is one", x.met(7), 0);
    }

    private static void weight() {
        due.at("18 weight");
        PromiseCoins x = new PromiseCoins();
        due.is("at first", x.weight(77), 1);
        for (int i = 0; i < 8; i++) {
            x.coin(i, 6, 6);
        }
        due.is("greatest", x.weight(255), 1679616);
        due.is("all", x.count(5), 1679616);
        due.is("one tails", x.weight(254), 0);
        for (int i = 0; i < 8; i++) {
            x.coin(i, i % 6, 6);
        }
        due.is("heads of 1 to 5, 7", x.weight(2 + 4 + 8 + 16 + 32 + 128), 6 * 120 * 6 * 1);
        int sum = 0;
        for (int t = 0; t < 256; t++) {
            sum += x.weight(t);
        }
        due.is("the sum is all", sum, x.count(5));
        due.is("below", x.weight(-1), Due.BEYOND);
        due.is("above", x.weight(256), Due.BEYOND);
    }

    private static void fraction(String what, int above, int below, int wantAbove, int wantBelow) {
        due.is(what + " above", above, wantAbove);
        due.is(what + " below", below, wantBelow);
    }

    private static void chance() {
        due.at("19 chance");
        PromiseCoins x = new PromiseCoins();
        due.is("no such", x.chance(0, 0), Due.BEYOND);
        int[][] want = {{2, 3}, {1, 2}, {11, 12}, {1, 2}, {2, 3}, {1, 12}, {1, 24}};
        x.coin(2, 2, 3);
        x.coin(5, 3, 4);
        x.coin(1, 1, 2);
        for (int kind = 0; kind < 7; kind++) {
            x.promise(kind, 2, 0, 1);
            x.change(kind, 2, 5);
        }
        x.change(5, 1, 5);
        x.change(5, 2, 2);
        x.change(6, 0, 6);
        for (int kind = 0; kind < 6; kind++) {
            fraction("kind " + kind, x.chance(kind, 0), x.chance(kind, 1), want[kind][0], want[kind][1]);
        }
        fraction("chained behind tailed", x.chance(6, 0), x.chance(6, 1), 0, 1);
        x.change(5, 0, 0);
        x.change(5, 1, 1);
        fraction("chained behind a promise", x.chance(6, 0), x.chance(6, 1), 1, 4);
        x.coin(2, 3, 3);
        fraction("sure", x.chance(0, 0), x.chance(0, 1), 1, 1);
        x.coin(2, 0, 3);
        fraction("never", x.chance(0, 0), x.chance(0, 1), 0, 1);
        due.is("promise above", x.chance(7, 0), Due.BEYOND);
        due.is("promise below", x.chance(-1, 0), Due.BEYOND);
        due.is("part above", x.chance(0, 2), Due.BEYOND);
        due.is("part below", x.chance(0, -1), Due.BEYOND);
    }

    private static void joint() {
        due.at("20 joint");
        PromiseCoins x = new PromiseCoins();
        x.coin(0, 1, 3);
        x.coin(1, 3, 4);
        x.promise(0, 0, 0, 1);
        x.promise(0, 1, 0, 1);
        x.promise(5, 0, 0, 1);
        fraction("both", x.joint(0, 1, 0, 0), x.joint(0, 1, 0, 1), 1, 4);
        fraction("either", x.joint(0, 1, 1, 0), x.joint(0, 1, 1, 1), 5, 6);
        fraction("just one", x.joint(1, 0, 2, 0), x.joint(1, 0, 2, 1), 7, 12);
        fraction("never both", x.joint(0, 2, 0, 0), x.joint(0, 2, 0, 1), 0, 1);
        fraction("always one", x.joint(0, 2, 2, 0), x.joint(0, 2, 2, 1), 1, 1);
        fraction("one and the same, both", x.joint(1, 1, 0, 0), x.joint(1, 1, 0, 1), 3, 4);
        fraction("the same, either", x.joint(1, 1, 1, 0), x.joint(1, 1, 1, 1), 3, 4);
        fraction("the same, just one", x.joint(1, 1, 2, 0), x.joint(1, 1, 2, 1), 0, 1);
        int[][] bad = {{3, 0, 0, 0}, {0, 3, 0, 0}, {-1, 0, 0, 0}, {0, -1, 0, 0}, {0, 1, 3, 0}, {0, 1, -1, 0},
            {0, 1, 0, 2}, {0, 1, 0, -1}};
        for (int[] b : bad) {
            due.is("beyond", x.joint(b[0], b[1], b[2], b[3]), Due.BEYOND);
        }
    }

    /** Three promises of thing 1 by coins of 1 in 2, 1 in 3, 1 in 4; needs of it, and of thing 2. */
    private static PromiseCoins three() {
        PromiseCoins x = new PromiseCoins();
        x.coin(1, 1, 3);
        x.coin(2, 1, 4);
        x.promise(0, 0, 1, 2);
        x.promise(0, 1, 1, 3);
        x.promise(0, 2, 2, 4);
        x.change(0, 5, 6);
        x.change(1, 5, 9);
        x.change(2, 5, 20);
        x.need(1, 5, 30);
        x.need(2, 4, 8);
        x.need(1, 2, 12);
        return x;
    }

    private static void sure() {
        due.at("21 sure");
        PromiseCoins x = three();
        fraction("both are asked", x.sure(0, 7, 0), x.sure(0, 7, 1), 1, 6);
        fraction("one is not enough", x.sure(0, 1, 0), x.sure(0, 1, 1), 0, 1);
        fraction("either does", x.sure(2, 3, 0), x.sure(2, 3, 1), 2, 3);
        fraction("other thing", x.sure(1, 4, 0), x.sure(1, 4, 1), 1, 4);
        x.change(2, 0, 6);
        fraction("chained asks outside of the set", x.sure(1, 4, 0), x.sure(1, 4, 1), 1, 12);
        int[][] bad = {{3, 0, 0}, {-1, 0, 0}, {0, 8, 0}, {0, -1, 0}, {0, 0, 2}, {0, 0, -1}};
        for (int[] b : bad) {
            due.is("beyond", x.sure(b[0], b[1], b[2]), Due.BEYOND);
        }
    }

    private static void all() {
        due.at("22 all");
        PromiseCoins x = three();
        fraction("all", x.all(7, 0), x.all(7, 1), 1, 24);
        fraction("one is never met", x.all(3, 0), x.all(3, 1), 0, 1);
        due.is("above", x.all(8, 0), Due.BEYOND);
        due.is("below", x.all(-1, 0), Due.BEYOND);
        due.is("part", x.all(0, 2), Due.BEYOND);
        due.is("part", x.all(0, -1), Due.BEYOND);
        PromiseCoins y = new PromiseCoins();
        fraction("no needs", y.all(0, 0), y.all(0, 1), 1, 1);
    }

    private static void mean() {
        due.at("23 mean");
        PromiseCoins x = three();
        fraction("sum of three", x.mean(7, 0), x.mean(7, 1), 11, 1);
        fraction("none", x.mean(0, 0), x.mean(0, 1), 0, 1);
        x.change(1, 0, 3);
        fraction("back", x.mean(2, 0), x.mean(2, 1), 11, 3);
        x.change(1, 0, 4);
        fraction("freed", x.mean(2, 0), x.mean(2, 1), 4, 3);
        x.change(1, 0, 6);
        fraction("chained", x.mean(2, 0), x.mean(2, 1), 14, 3);
        due.is("above", x.mean(8, 0), Due.BEYOND);
        due.is("below", x.mean(-1, 0), Due.BEYOND);
        due.is("part", x.mean(0, 2), Due.BEYOND);
    }

    private static void worth() {
        due.at("24 worth");
        PromiseCoins x = three();
        fraction("all", x.worth(7, 0), x.worth(7, 1), 15, 1);
        fraction("one", x.worth(2, 0), x.worth(2, 1), 4, 1);
        fraction("none", x.worth(0, 0), x.worth(0, 1), 0, 1);
        fraction("two", x.worth(6, 0), x.worth(6, 1), 6, 1);
        x.coin(1, 1, 5);
        fraction("a fifth", x.worth(2, 0), x.worth(2, 1), 12, 5);
        due.is("above", x.worth(8, 0), Due.BEYOND);
        due.is("below", x.worth(-1, 0), Due.BEYOND);
        due.is("part", x.worth(0, -1), Due.BEYOND);
    }

    private static void harm() {
        due.at("25 harm");
        PromiseCoins x = three();
        fraction("more than 0", x.harm(7, 0, 0), x.harm(7, 0, 1), 3, 4);
        fraction("more than 14", x.harm(3, 14, 0), x.harm(3, 14, 1), 1, 6);
        fraction("just 15 is not more", x.harm(3, 15, 0), x.harm(3, 15, 1), 0, 1);
        fraction("more than 20", x.harm(7, 20, 0), x.harm(7, 20, 1), 1, 6);
        fraction("none", x.harm(0, 0, 0), x.harm(0, 0, 1), 0, 1);
        fraction("9999", x.harm(7, 9999, 0), x.harm(7, 9999, 1), 0, 1);
        int[][] bad = {{8, 0, 0}, {-1, 0, 0}, {0, -1, 0}, {0, 10000, 0}, {0, 0, 2}, {0, 0, -1}};
        for (int[] b : bad) {
            due.is("beyond", x.harm(b[0], b[1], b[2]), Due.BEYOND);
        }
    }

    private static void likely() {
        due.at("26 likely");
        PromiseCoins x = new PromiseCoins();
        due.is("no promises", x.likely(0), 0);
        for (int i = 0; i < 4; i++) {
            x.promise(0, i, 0, 1);
        }
        due.is("of one, a tie", x.likely(1), 0);
        due.is("of two", x.likely(3), 1);
        due.is("of three, a tie", x.likely(7), 1);
        due.is("of four", x.likely(15), 2);
        x.coin(0, 2, 3);
        due.is("one that is likely", x.likely(1), 1);
        x.coin(1, 1, 1);
        x.coin(2, 6, 6);
        due.is("sure ones", x.likely(6), 2);
        due.is("of none", x.likely(0), 0);
        due.is("above", x.likely(16), Due.BEYOND);
        due.is("below", x.likely(-1), Due.BEYOND);
        PromiseCoins y = new PromiseCoins();
        for (int i = 0; i < 10; i++) {
            y.promise(0, 0, 0, 1);
        }
        y.coin(0, 5, 6);
        due.is("all ten", y.likely(1023), 10);
        y.coin(0, 1, 6);
        due.is("nothing is left of the call ahead", y.likely(1023), 0);
    }

    private static void greatestFractions() {
        due.at("23 mean, the greatest");
        PromiseCoins x = new PromiseCoins();
        for (int i = 0; i < 8; i++) {
            x.coin(i, 5, 6);
        }
        for (int i = 0; i < 10; i++) {
            x.promise(6, i % 8, 0, 1);
            x.change(i, 5, 49);
        }
        // kept to number i: (5/6)^(i+1) up to 7, then no new coin is asked; 98 if kept, else 2
        long sum = 0;
        long all = 1679616;
        long[] power = new long[9];
        power[0] = all;
        for (int i = 1; i <= 8; i++) {
            power[i] = power[i - 1] / 6 * 5;
        }
        for (int i = 0; i < 10; i++) {
            long kept = power[Math.min(8, i + 1)];
            sum += kept * 98 + (all - kept) * 2;
        }
        long g = java.math.BigInteger.valueOf(sum).gcd(java.math.BigInteger.valueOf(all)).longValue();
        fraction("all ten", x.mean(1023, 0), x.mean(1023, 1), (int) (sum / g), (int) (all / g));
        for (int i = 0; i < 8; i++) {
            x.coin(i, 6, 6);
        }
        fraction("sure", x.mean(1023, 0), x.mean(1023, 1), 980, 1);
    }

    /** Eight promises by eight coins: no two throws keep the same ones, and each weighs 1. */
    private static void eachThrowItsOwnCase() {
        due.at("19 to 26, all throws apart");
        PromiseCoins x = new PromiseCoins();
        for (int i = 0; i < 8; i++) {
            x.promise(0, i, 0, 1);
            x.change(i, 5, 1 << i % 5);
        }
        x.need(0, 8, 64);
        x.need(0, 1, 64);
        fraction("all eight", x.sure(0, 255, 0), x.sure(0, 255, 1), 1, 256);
        fraction("one of them", x.sure(1, 255, 0), x.sure(1, 255, 1), 255, 256);
        fraction("all needs", x.all(255, 0), x.all(255, 1), 1, 256);
        fraction("worth", x.worth(255, 0), x.worth(255, 1), 64, 1);
        fraction("mean", x.mean(255, 0), x.mean(255, 1), 19, 1);
        fraction("harm", x.harm(255, 37, 0), x.harm(255, 37, 1), 1, 256);
        fraction("harm", x.harm(255, 0, 0), x.harm(255, 0, 1), 255, 256);
        due.is("likely", x.likely(255), 4);
        due.is("fewest", x.fewest(0, 1, 256), 255);
        due.is("fewest, a little more", x.fewest(0, 4, 999), Due.NONE);
        due.is("most", x.most(37, 1, 256), 255);
        due.is("most, a little less", x.most(37, 3, 999), 127);
        fraction("chance", x.chance(7, 0), x.chance(7, 1), 1, 2);
        fraction("joint", x.joint(0, 7, 1, 0), x.joint(0, 7, 1, 1), 3, 4);
        for (int i = 0; i < 8; i++) {
            x.coin(i, 5, 6);
        }
        fraction("in lowest terms as it is", x.sure(0, 255, 0), x.sure(0, 255, 1), 390625, 1679616);
    }
}
