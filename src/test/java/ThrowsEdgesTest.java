/** Promises 12 to 18, DRAWS, KEPT and OWES: each sentence that names a boundary case. */
public final class ThrowsEdgesTest {
    private static final Due due = new Due();

    public static void main(String[] args) {
        firstDraws();
        drawsWrapAround();
        drawsOfCoinsThatAreSure();
        drawsByEachB();
        castIsTheLatest();
        latestIsNoneAtFirst();
        layOfAllThrows();
        keptOfNothing();
        keptByEachPairOfCoins();
        keptByOneCoinTwice();
        chainedAtTheFirst();
        chainOfTen();
        owesByEachCost();
        owesOfAllAndOfNone();
        owesIsCut();
        bringsOfNoneAndOfAll();
        metJustSo();
        metByAChainedOneAlone();
        metOfNoneAndOfAll();
        weightLeastAndGreatest();
        weightsSumToAll();
        due.end();
    }

    /** The next z, told without any wrap-around of its own. */
    private static int nextZ(int z) {
        return (int) Math.floorMod(Math.floorMod((long) z, 1L << 32) * 1103515245L + 12345L, 1L << 32);
    }

    private static int drawn(int z) {
        return (int) (Math.floorMod((long) z, 1L << 32) / 256);
    }

    private static int thrown(int z, int a, int b) {
        int heads = 0;
        int at = z;
        for (int i = 0; i < 8; i++) {
            at = nextZ(at);
            if (drawn(at) % b < a) {
                heads |= 1 << i;
            }
        }
        return heads;
    }

    private static int after(int z, int draws) {
        int at = z;
        for (int i = 0; i < draws; i++) {
            at = nextZ(at);
        }
        return at;
    }

    private static void firstDraws() {
        due.at("DRAWS: 'z is told (1 at first); each makes it z * 1103515245 + 12345 (an int), and gives z >>> 8'");
        PromiseCoins x = new PromiseCoins();
        due.is("z", x.count(4), 1);
        due.is("the first", x.cast(), thrown(1, 1, 2));
        due.is("eight draws", x.count(4), after(1, 8));
        PromiseCoins y = new PromiseCoins();
        y.seed(0);
        due.is("z 0", y.cast(), thrown(0, 1, 2));
        due.is("from 0", y.count(4), after(0, 8));
    }

    private static void drawsWrapAround() {
        due.at("DRAWS: z (an int) wraps around, and z >>> 8 is never below 0");
        int[] all = {Integer.MIN_VALUE, Integer.MAX_VALUE, -1, -2, 255, 256, 0x7fffff00, 0x80000100, 1 << 30, -12345,
            Due.BEYOND, Due.SIZE, 987654321};
        for (int z : all) {
            for (int b = 2; b <= 6; b++) {
                PromiseCoins x = new PromiseCoins();
                Towns.coins(x, b - 1, b);
                x.seed(z);
                due.is("z " + z + ", b " + b, x.cast(), thrown(z, b - 1, b));
                due.is("z then", x.count(4), after(z, 8));
                due.is("next", x.cast(), thrown(after(z, 8), b - 1, b));
            }
        }
    }

    private static void drawsOfCoinsThatAreSure() {
        due.at("Promise 12: 'each HEADS if the rest of a draw by b is below a': a 0 never, a b always");
        for (int b = 1; b <= 6; b++) {
            PromiseCoins x = new PromiseCoins();
            Towns.coins(x, 0, b);
            PromiseCoins y = new PromiseCoins();
            Towns.coins(y, b, b);
            for (int n = 0; n < 40; n++) {
                due.is("never", x.cast(), 0);
                due.is("always", y.cast(), 255);
            }
            due.is("they draw all the same", x.count(4), after(1, 320));
            due.is("they draw all the same", y.count(4), after(1, 320));
        }
    }

    private static void drawsByEachB() {
        due.at("Promise 12: 'COIN by COIN': the first draw is that of COIN 0, the eighth that of COIN 7");
        for (int b = 1; b <= 6; b++) {
            for (int a = 0; a <= b; a++) {
                PromiseCoins x = new PromiseCoins();
                Towns.coins(x, a, b);
                int z = 1;
                for (int n = 0; n < 10; n++) {
                    due.is(a + " in " + b, x.cast(), thrown(z, a, b));
                    z = after(z, 8);
                }
            }
        }
        PromiseCoins x = new PromiseCoins();
        Towns.coins(x, 0, 1);
        x.coin(7, 1, 2);
        int last = 0;
        int z = 1;
        for (int n = 0; n < 20; n++) {
            z = after(z, 8);
            last = drawn(z) % 2 == 0 ? 128 : 0;
            due.is("by the eighth draw", x.cast(), last);
        }
    }

    private static void castIsTheLatest() {
        due.at("THE LATEST THROW: 'that of the latest cast() or lay() (none at first)'");
        PromiseCoins x = new PromiseCoins();
        int cast = x.cast();
        due.is("cast", x.count(2), cast);
        x.lay(255 - cast);
        due.is("lay", x.count(2), 255 - cast);
        int next = x.cast();
        due.is("cast", x.count(2), next);
        x.coin(0, 0, 1);
        due.is("a coin changes none that has been thrown", x.count(2), next);
        Towns.coins(x, 0, 1);
        due.is("no HEADS is a THROW", x.cast(), 0);
        due.is("it is there", x.count(2), 0);
        due.is("it is asked", x.kept(), 0);
    }

    private static void latestIsNoneAtFirst() {
        due.at("Promises 14 to 17: 'NONE: there is none', and no longer after cast() or lay(0)");
        PromiseCoins x = new PromiseCoins();
        due.is("kept", x.kept(), Due.NONE);
        due.is("owes", x.owes(0), Due.NONE);
        due.is("brings", x.brings(0, 0), Due.NONE);
        due.is("met", x.met(0), Due.NONE);
        due.is("a refused lay is none", x.lay(256), Due.BEYOND);
        due.is("kept", x.kept(), Due.NONE);
        due.is("lay", x.lay(0), 1);
        due.is("kept", x.kept(), 0);
        due.is("owes", x.owes(0), 0);
        due.is("brings", x.brings(0, 0), 0);
        due.is("met", x.met(0), 0);
        PromiseCoins y = new PromiseCoins();
        y.cast();
        due.is("kept after cast", y.kept(), 0);
    }

    private static void layOfAllThrows() {
        due.at("Promise 13: 'THE LATEST THROW becomes a set of COINS: 1. BEYOND: not 0 to 255.'");
        PromiseCoins x = new PromiseCoins();
        for (int i = 0; i < 8; i++) {
            x.promise(0, i, 0, 1);
        }
        Towns.coins(x, 0, 6);
        for (int t = 0; t < 256; t += 3) {
            due.is("lay " + t, x.lay(t), 1);
            due.is("also one that is never cast", x.count(2), t);
            due.is("kept", x.kept(), t);
        }
        PromiseCoins y = new PromiseCoins();
        y.lay(77);
        for (int bad : new int[] {-1, 256, 255 + 256, -256, Integer.MIN_VALUE, Integer.MAX_VALUE, 1 << 30}) {
            due.is("lay " + bad, y.lay(bad), Due.BEYOND);
            due.is("it stays", y.count(2), 77);
        }
        due.is("z stays", y.count(4), 1);
    }

    private static void keptOfNothing() {
        due.at("Promise 14: 'PROMISES that are KEPT in THE LATEST THROW, as a set', of none and of ten");
        PromiseCoins x = new PromiseCoins();
        x.lay(255);
        due.is("no promises", x.kept(), 0);
        for (int i = 0; i < 10; i++) {
            x.promise(0, i % 8, 0, 1);
        }
        due.is("all ten", x.kept(), 1023);
        x.lay(0);
        due.is("none of ten", x.kept(), 0);
        x.lay(2);
        due.is("the second and the tenth", x.kept(), 2 + 512);
        x.lay(128);
        due.is("the eighth", x.kept(), 128);
    }

    private static void keptByEachPairOfCoins() {
        due.at("KEPT in a THROW, of each KIND: neither coin, COIN alone, SECOND alone, both");
        int[][] want = {{0, 1, 0, 1}, {0, 0, 0, 1}, {0, 1, 1, 1}, {0, 0, 0, 1}, {0, 1, 0, 1}, {1, 0, 0, 0}, {0, 0, 0, 1}};
        int[][] pairs = {{0, 7}, {7, 0}, {3, 4}, {6, 7}, {1, 0}};
        for (int kind = 0; kind < 7; kind++) {
            for (int[] pair : pairs) {
                PromiseCoins x = new PromiseCoins();
                Towns.add(x, kind, pair[0], pair[1], 0, 1, 0);
                int first = 1 << pair[0];
                int second = 1 << pair[1];
                int[] laid = {0, first, second, first + second};
                for (int i = 0; i < 4; i++) {
                    x.lay(laid[i]);
                    due.is("kind " + kind + ", these alone " + i, x.kept(), want[kind][i]);
                    x.lay(laid[i] | 255 - first - second);
                    due.is("kind " + kind + ", with all others " + i, x.kept(), want[kind][i]);
                }
            }
        }
    }

    private static void keptByOneCoinTwice() {
        due.at("Terms 1: COIN and SECOND 'may be the same'");
        for (int kind = 0; kind < 7; kind++) {
            PromiseCoins x = new PromiseCoins();
            x.promise(kind, 5, 0, 1);
            x.lay(32);
            due.is("heads, kind " + kind, x.kept(), kind == 5 ? 0 : 1);
            x.lay(255 - 32);
            due.is("tails, kind " + kind, x.kept(), kind == 5 ? 1 : 0);
        }
    }

    private static void chainedAtTheFirst() {
        due.at("KEPT: 'CHAINED: .. the PROMISE ahead (its number less 1; for 0 none is asked)'");
        PromiseCoins x = new PromiseCoins();
        x.promise(6, 0, 0, 1);
        x.promise(6, 1, 0, 1);
        int[] want = {0, 1, 0, 3};
        for (int t = 0; t < 4; t++) {
            x.lay(t);
            due.is("throw " + t, x.kept(), want[t]);
        }
        x.change(0, 0, 5);
        int[] behindTailed = {1, 0, 3, 0};
        for (int t = 0; t < 4; t++) {
            x.lay(t);
            due.is("behind a tailed one, throw " + t, x.kept(), behindTailed[t]);
        }
        x.lay(2);
        x.drop();
        x.promise(6, 1, 0, 1);
        due.is("a new one of its number asks the same", x.kept(), 3);
    }

    private static void chainOfTen() {
        due.at("KEPT: 'CHAINED: .. the PROMISE ahead': ten in a row");
        PromiseCoins x = new PromiseCoins();
        for (int i = 0; i < 10; i++) {
            x.promise(6, i % 8, 0, 1);
        }
        for (int coin = 0; coin < 8; coin++) {
            x.lay(255 - (1 << coin));
            due.is("broken at " + coin, x.kept(), (1 << coin) - 1);
        }
        x.lay(255);
        due.is("not broken", x.kept(), 1023);
        x.change(0, 0, 5);
        due.is("the first is not kept", x.kept(), 0);
        x.change(9, 0, 0);
        due.is("the last asks for none then", x.kept(), 512);
    }

    /** What one of each kind owes if it is kept, and if it is not, by its cost. */
    private static int due(int kind, int cost, boolean isKept) {
        if (isKept) {
            return kind == 4 ? cost / 2 : kind == 6 ? 2 * cost : cost;
        }
        return kind == 3 ? 1 : kind == 6 ? 2 : 0;
    }

    private static void owesByEachCost() {
        due.at("It OWES in a THROW, of each KIND, by COST 0 to 49");
        for (int kind = 0; kind < 7; kind++) {
            PromiseCoins x = new PromiseCoins();
            x.promise(kind, 0, 0, 1);
            for (int cost : new int[] {0, 1, 2, 3, 48, 49}) {
                x.change(0, 5, cost);
                x.lay(1);
                due.is("heads, kind " + kind + ", cost " + cost, x.owes(1), due(kind, cost, kind != 5));
                due.is("nothing is asked", x.owes(0), 0);
                x.lay(0);
                due.is("tails, kind " + kind + ", cost " + cost, x.owes(1), due(kind, cost, kind == 5));
            }
        }
    }

    private static void owesOfAllAndOfNone() {
        due.at("Promise 15: 'What a set of PROMISES OWES', of none, of ten, the most and the least");
        PromiseCoins x = new PromiseCoins();
        for (int i = 0; i < 10; i++) {
            x.promise(6, 0, 0, 1);
            x.change(i, 5, 49);
        }
        x.lay(1);
        due.is("the most", x.owes(1023), 980);
        due.is("none", x.owes(0), 0);
        due.is("the tenth", x.owes(512), 98);
        x.lay(0);
        due.is("twice 1 of each", x.owes(1023), 20);
        x.change(0, 0, 0);
        due.is("a chained one behind one that isn't kept", x.owes(2), 2);
        x.change(0, 0, 5);
        due.is("itself isn't kept, the one ahead is", x.owes(2), 2);
        x.change(1, 1, 1);
        x.lay(2);
        x.change(1, 2, 1);
        due.is("kept: the one ahead is tailed", x.owes(2), 98);
        due.is("the set takes its own alone", x.owes(3), 98 + 49);
        x.lay(3);
        due.is("a BACK one would be kept, this one isn't", x.owes(2), 2);
    }

    private static void owesIsCut() {
        due.at("Terms: 'Quotients are cut.': 'FREED: half of COST, cut'");
        PromiseCoins x = new PromiseCoins();
        x.promise(4, 0, 0, 1);
        x.promise(4, 0, 0, 1);
        x.lay(1);
        for (int cost = 0; cost <= 49; cost++) {
            x.change(0, 5, cost);
            due.is("half of " + cost, x.owes(1), cost / 2);
        }
        x.change(0, 5, 7);
        x.change(1, 5, 5);
        due.is("each is cut by itself", x.owes(3), 5);
    }

    private static void bringsOfNoneAndOfAll() {
        due.at("Promise 16: 'How many of a THING those of a set that are KEPT bring', of none, of ten");
        PromiseCoins x = new PromiseCoins();
        x.lay(1);
        for (int thing = 0; thing < 6; thing++) {
            due.is("no promises", x.brings(0, thing), 0);
        }
        for (int i = 0; i < 10; i++) {
            x.promise(0, 0, 5, 9);
        }
        due.is("the most", x.brings(1023, 5), 90);
        due.is("of another thing", x.brings(1023, 4), 0);
        due.is("of none", x.brings(0, 5), 0);
        due.is("of the tenth", x.brings(512, 5), 9);
        x.change(9, 3, 0);
        x.change(9, 4, 1);
        due.is("the first thing", x.brings(1023, 0), 1);
        due.is("nine left", x.brings(1023, 5), 81);
        x.lay(254);
        due.is("none is kept", x.brings(1023, 5), 0);
        x.lay(1);
        x.change(0, 0, 5);
        due.is("one of them isn't", x.brings(1023, 5), 72);
        due.is("that one", x.brings(1, 5), 0);
    }

    private static void metJustSo() {
        due.at("NEEDS: 'MET .. if those of them that are KEPT bring that NUMBER of the THING or more'");
        PromiseCoins x = new PromiseCoins();
        for (int i = 0; i < 5; i++) {
            x.promise(0, 0, 2, 8);
        }
        x.promise(0, 0, 1, 9);
        x.need(2, 40, 1);
        x.need(2, 39, 1);
        x.need(2, 1, 1);
        x.need(2, 8, 1);
        x.lay(1);
        due.is("40 of 40", x.met(31), 15);
        due.is("another thing does nothing", x.met(32), 0);
        due.is("32", x.met(15), 12);
        due.is("8", x.met(1), 12);
        x.change(0, 4, 7);
        due.is("39 of 40", x.met(63), 14);
        due.is("7 of 8", x.met(1), 4);
        x.change(0, 4, 9);
        due.is("41 of 40", x.met(31), 15);
        due.is("9 of 8", x.met(1), 12);
        due.is("none", x.met(0), 0);
    }

    private static void metByAChainedOneAlone() {
        due.at("Terms 2: '(CHAINED ones ask for the PROMISE ahead whether it is in the set or not)'");
        PromiseCoins x = new PromiseCoins();
        x.promise(0, 0, 0, 5);
        x.promise(6, 1, 0, 5);
        x.need(0, 5, 1);
        x.need(0, 6, 1);
        int[] alone = {0, 0, 0, 1};
        for (int t = 0; t < 4; t++) {
            x.lay(t);
            due.is("throw " + t, x.met(2), alone[t]);
            due.is("throw " + t, x.brings(2, 0), 5 * alone[t]);
        }
        due.is("the one ahead isn't of the set", x.met(2) & 2, 0);
        due.is("with it", x.met(3), 3);
    }

    private static void metOfNoneAndOfAll() {
        due.at("Promise 17: 'NEEDS that are MET by a set', of none and of six");
        PromiseCoins x = new PromiseCoins();
        x.lay(255);
        due.is("no needs", x.met(0), 0);
        x.promise(0, 7, 0, 1);
        due.is("no needs", x.met(1), 0);
        for (int i = 0; i < 6; i++) {
            x.need(0, 1, 1);
        }
        due.is("all six", x.met(1), 63);
        due.is("none of six", x.met(0), 0);
        x.lay(127);
        due.is("none of six", x.met(1), 0);
    }

    private static void weightLeastAndGreatest() {
        due.at("Promise 18: WEIGHT of a THROW, from 0 to 6 in 6 of all eight");
        PromiseCoins x = new PromiseCoins();
        Towns.coins(x, 6, 6);
        due.is("6^8", x.weight(255), 1679616);
        due.is("ALL", x.count(5), 1679616);
        for (int i = 0; i < 8; i++) {
            due.is("one isn't HEADS", x.weight(255 - (1 << i)), 0);
        }
        Towns.coins(x, 0, 6);
        due.is("6^8", x.weight(0), 1679616);
        due.is("0", x.weight(1), 0);
        Towns.coins(x, 5, 6);
        due.is("5^8", x.weight(255), 390625);
        due.is("1", x.weight(0), 1);
        due.is("5", x.weight(128), 5);
        for (int bad : new int[] {-1, 256, 257, 511, -256, Integer.MIN_VALUE, Integer.MAX_VALUE}) {
            due.is("no THROW", x.weight(bad), Due.BEYOND);
        }
        due.is("the latest throw has nothing to do with it", x.count(2), -1);
    }

    private static void weightsSumToAll() {
        due.at("Terms 1: 'ALL: b of all COINS multiplied (the sum of all 256 WEIGHTS)'");
        for (int shift = 0; shift < 6; shift++) {
            PromiseCoins x = new PromiseCoins();
            int all = 1;
            for (int i = 0; i < 8; i++) {
                int b = 1 + (i * 5 + shift) % 6;
                x.coin(i, (i + shift) % (b + 1), b);
                all *= b;
            }
            int sum = 0;
            for (int t = 0; t < 256; t++) {
                sum += x.weight(t);
            }
            due.is("ALL", x.count(5), all);
            due.is("the sum", sum, all);
        }
    }
}
