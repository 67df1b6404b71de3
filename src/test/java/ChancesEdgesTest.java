/** Promises 19 to 26, CHANCE, MEAN and fractions: each sentence that names a boundary case. */
public final class ChancesEdgesTest {
    private static final Due due = new Due();
    private static final int ALL = 1679616;

    public static void main(String[] args) {
        nothingIsNoughtByOne();
        chanceNeverAndAlways();
        chanceSmallest();
        chanceOfEachCoinFraction();
        chanceOfEachKind();
        jointOfOneAndTheSame();
        jointOfTwoThatNeverMeet();
        jointSmallest();
        sureOfNoPromise();
        sureJustSo();
        sureOfTheLargestNeed();
        allOfNoNeeds();
        allOfSix();
        meanLeast();
        meanGreatest();
        meanGreatestBelow();
        meanIsNoCutQuotient();
        worthLeastAndGreatest();
        worthOfOneNeedTwice();
        harmJustSo();
        harmLeastAndGreatest();
        likelyOfSeveral();
        likelyOfTenAndNone();
        setsTakeTheirOwnAlone();
        askingChangesNothing();
        due.end();
    }

    private interface Part {
        int of(int part);
    }

    private static void fraction(String what, Part call, int above, int below) {
        due.is(what + ", above", call.of(0), above);
        due.is(what + ", below", call.of(1), below);
        due.is(what + ", part -1", call.of(-1), Due.BEYOND);
        due.is(what + ", part 2", call.of(2), Due.BEYOND);
    }

    /** As many promises of a kind by coins 0, 1, .. 7, 0, .., each of 1 of thing 0. */
    private static PromiseCoins many(int promises, int kind) {
        PromiseCoins x = new PromiseCoins();
        for (int i = 0; i < promises; i++) {
            x.promise(kind, i % 8, 0, 1);
        }
        return x;
    }

    private static void nothingIsNoughtByOne() {
        due.at("Terms 1: 'Fractions are told in lowest terms, by part 0 (above) and 1 (below; 0 is 0 by 1)'");
        PromiseCoins x = many(1, 0);
        x.need(1, 1, 1);
        for (int b = 1; b <= 6; b++) {
            Towns.coins(x, 0, b);
            fraction("chance", p -> x.chance(0, p), 0, 1);
            fraction("joint", p -> x.joint(0, 0, 0, p), 0, 1);
            fraction("sure", p -> x.sure(0, 1, p), 0, 1);
            fraction("all", p -> x.all(1, p), 0, 1);
            fraction("mean", p -> x.mean(1, p), 0, 1);
            fraction("worth", p -> x.worth(1, p), 0, 1);
            fraction("harm", p -> x.harm(1, 0, p), 0, 1);
        }
    }

    private static void chanceNeverAndAlways() {
        due.at("Promise 19: CHANCE from 0 by 1 to 1 by 1");
        for (int b = 1; b <= 6; b++) {
            PromiseCoins x = many(1, 0);
            x.coin(0, 0, b);
            fraction("0 in " + b, p -> x.chance(0, p), 0, 1);
            x.coin(0, b, b);
            fraction(b + " in " + b, p -> x.chance(0, p), 1, 1);
            x.change(0, 0, 5);
            fraction("tailed, " + b + " in " + b, p -> x.chance(0, p), 0, 1);
            x.coin(0, 0, b);
            fraction("tailed, 0 in " + b, p -> x.chance(0, p), 1, 1);
        }
    }

    private static void chanceSmallest() {
        due.at("Promise 19: the smallest CHANCE, 1 by 6^8");
        PromiseCoins x = many(8, 6);
        Towns.coins(x, 1, 6);
        int below = 1;
        for (int i = 0; i < 8; i++) {
            int promise = i;
            below *= 6;
            fraction("chained " + i, p -> x.chance(promise, p), 1, below);
        }
        Towns.coins(x, 5, 6);
        fraction("5^8 by 6^8", p -> x.chance(7, p), 390625, ALL);
    }

    private static void chanceOfEachCoinFraction() {
        due.at("Promise 19: 'in lowest terms', of each a in b");
        int[][] lowest = {{1, 6, 1, 6}, {2, 6, 1, 3}, {3, 6, 1, 2}, {4, 6, 2, 3}, {5, 6, 5, 6}, {2, 4, 1, 2}, {3, 5, 3, 5},
            {3, 3, 1, 1}, {0, 5, 0, 1}};
        for (int[] f : lowest) {
            for (int coin = 0; coin < 8; coin++) {
                PromiseCoins x = new PromiseCoins();
                Towns.coins(x, 1, 6);
                x.promise(0, coin, 0, 1);
                x.coin(coin, f[0], f[1]);
                fraction(f[0] + " in " + f[1] + " of " + coin, p -> x.chance(0, p), f[2], f[3]);
            }
        }
    }

    private static void chanceOfEachKind() {
        due.at("Promise 19: CHANCE that a PROMISE is KEPT, of each KIND, by 1 in 3 and 1 in 4, and by one COIN twice");
        int[][] want = {{1, 3}, {1, 12}, {1, 2}, {1, 12}, {1, 3}, {1, 2}, {1, 12}};
        int[][] twice = {{1, 3}, {1, 3}, {1, 3}, {1, 3}, {1, 3}, {2, 3}, {1, 3}};
        for (int kind = 0; kind < 7; kind++) {
            PromiseCoins x = new PromiseCoins();
            Towns.add(x, kind, 0, 7, 0, 1, 0);
            x.coin(0, 1, 3);
            x.coin(7, 1, 4);
            fraction("kind " + kind, p -> x.chance(0, p), want[kind][0], want[kind][1]);
            x.change(0, 2, 0);
            fraction("one coin, kind " + kind, p -> x.chance(0, p), twice[kind][0], twice[kind][1]);
        }
    }

    private static void jointOfOneAndTheSame() {
        due.at("Promise 20: 'of two PROMISES (also one), what 0 both, 1 either, 2 just one is KEPT'");
        PromiseCoins x = Towns.made(10, 6);
        for (int i = 0; i < 10; i++) {
            int promise = i;
            int above = x.chance(i, 0);
            int below = x.chance(i, 1);
            fraction("both of " + i, p -> x.joint(promise, promise, 0, p), above, below);
            fraction("either of " + i, p -> x.joint(promise, promise, 1, p), above, below);
            fraction("just one of " + i, p -> x.joint(promise, promise, 2, p), 0, 1);
        }
    }

    private static void jointOfTwoThatNeverMeet() {
        due.at("Promise 20: both never, either always, just one always; and the other way round");
        PromiseCoins x = new PromiseCoins();
        x.promise(0, 3, 0, 1);
        x.promise(5, 3, 0, 1);
        x.promise(0, 3, 1, 2);
        int[][] want = {{0, 1}, {1, 1}, {1, 1}};
        int[][] alike = {{1, 2}, {1, 2}, {0, 1}};
        for (int i = 0; i < 3; i++) {
            int what = i;
            fraction("what " + i, p -> x.joint(0, 1, what, p), want[i][0], want[i][1]);
            fraction("the other way round " + i, p -> x.joint(1, 0, what, p), want[i][0], want[i][1]);
            fraction("two that are kept alike " + i, p -> x.joint(0, 2, what, p), alike[i][0], alike[i][1]);
        }
        due.is("what -1", x.joint(0, 1, -1, 0), Due.BEYOND);
        due.is("what 3", x.joint(0, 1, 3, 0), Due.BEYOND);
    }

    private static void jointSmallest() {
        due.at("Promise 20: the first PROMISE and the tenth, and the smallest CHANCE");
        PromiseCoins x = many(10, 6);
        Towns.coins(x, 1, 6);
        fraction("both", p -> x.joint(0, 9, 0, p), 1, ALL);
        fraction("either", p -> x.joint(9, 0, 1, p), 1, 6);
        fraction("just one", p -> x.joint(0, 9, 2, p), ALL / 6 - 1, ALL);
        fraction("the tenth asks for no new coin", p -> x.joint(7, 9, 2, p), 0, 1);
    }

    private static void sureOfNoPromise() {
        due.at("Promise 21: 'CHANCE that a NEED is MET by a set', by none and by all ten");
        PromiseCoins x = many(10, 0);
        x.need(0, 1, 1);
        x.need(0, 10, 1);
        x.need(0, 11, 1);
        fraction("none", p -> x.sure(0, 0, p), 0, 1);
        fraction("one of ten", p -> x.sure(0, 1023, p), 255, 256);
        fraction("ten of ten", p -> x.sure(1, 1023, p), 1, 256);
        fraction("eleven of ten", p -> x.sure(2, 1023, p), 0, 1);
        fraction("the tenth alone", p -> x.sure(0, 512, p), 1, 2);
        due.is("a set of an 11th", x.sure(0, 1024, 0), Due.BEYOND);
        due.is("a set below", x.sure(0, -1, 0), Due.BEYOND);
    }

    private static void sureJustSo() {
        due.at("NEEDS: '.. bring that NUMBER of the THING or more'");
        PromiseCoins x = new PromiseCoins();
        x.promise(0, 0, 4, 9);
        x.promise(0, 1, 4, 1);
        x.need(4, 9, 1);
        x.need(4, 10, 1);
        x.need(4, 11, 1);
        fraction("9", p -> x.sure(0, 3, p), 1, 2);
        fraction("10", p -> x.sure(1, 3, p), 1, 4);
        fraction("11", p -> x.sure(2, 3, p), 0, 1);
        x.coin(0, 1, 1);
        fraction("for sure", p -> x.sure(0, 3, p), 1, 1);
    }

    private static void sureOfTheLargestNeed() {
        due.at("NEEDS: 'a NUMBER (1 to 40)': the largest, brought for sure");
        PromiseCoins x = new PromiseCoins();
        x.need(5, 40, 99);
        for (int i = 0; i < 10; i++) {
            x.promise(0, 7, 5, i < 9 ? 4 : 3);
        }
        x.coin(7, 6, 6);
        fraction("39", p -> x.sure(0, 1023, p), 0, 1);
        x.change(9, 4, 4);
        fraction("40", p -> x.sure(0, 1023, p), 1, 1);
        fraction("36", p -> x.sure(0, 511, p), 0, 1);
        x.coin(7, 1, 6);
        fraction("40, sometimes", p -> x.sure(0, 1023, p), 1, 6);
    }

    private static void allOfNoNeeds() {
        due.at("Promise 22: 'CHANCE that all NEEDS are MET by a set', of no NEEDS");
        PromiseCoins x = new PromiseCoins();
        fraction("no promises", p -> x.all(0, p), 1, 1);
        x.promise(0, 0, 0, 1);
        x.coin(0, 0, 6);
        fraction("the empty set", p -> x.all(0, p), 1, 1);
        fraction("one that is never kept", p -> x.all(1, p), 1, 1);
        x.need(0, 1, 1);
        fraction("a need, no promise", p -> x.all(0, p), 0, 1);
        fraction("a need, never met", p -> x.all(1, p), 0, 1);
        x.coin(0, 1, 6);
        fraction("a need", p -> x.all(1, p), 1, 6);
    }

    private static void allOfSix() {
        due.at("Promise 22: of six NEEDS, one of which isn't met");
        PromiseCoins x = new PromiseCoins();
        for (int i = 0; i < 6; i++) {
            x.promise(0, i, i, 1 + i);
            x.need(i, 1 + i, 1);
        }
        fraction("all six", p -> x.all(63, p), 1, 64);
        for (int i = 0; i < 6; i++) {
            int without = 63 - (1 << i);
            fraction("without " + i, p -> x.all(without, p), 0, 1);
        }
        Towns.coins(x, 1, 1);
        fraction("for sure", p -> x.all(63, p), 1, 1);
        x.change(5, 4, 5);
        fraction("the last isn't met", p -> x.all(63, p), 0, 1);
    }

    private static void meanLeast() {
        due.at("Promise 23: 'MEAN of what a set OWES', from 0 by 1");
        PromiseCoins x = many(8, 6);
        fraction("none", p -> x.mean(0, p), 0, 1);
        PromiseCoins y = new PromiseCoins();
        fraction("no promises", p -> y.mean(0, p), 0, 1);
        y.promise(0, 0, 0, 1);
        fraction("no cost", p -> y.mean(1, p), 0, 1);
        y.change(0, 5, 1);
        y.coin(0, 1, 6);
        fraction("1 by 1 in 6", p -> y.mean(1, p), 1, 6);
        y.change(0, 0, 4);
        fraction("half of 1, cut", p -> y.mean(1, p), 0, 1);
        y.change(0, 0, 3);
        fraction("1, kept or not", p -> y.mean(1, p), 1, 1);
        y.change(0, 5, 0);
        fraction("1 if it isn't kept", p -> y.mean(1, p), 5, 6);
        y.change(0, 0, 6);
        fraction("2 if it isn't kept", p -> y.mean(1, p), 5, 3);
        y.change(0, 0, 5);
        y.change(0, 5, 49);
        fraction("tailed", p -> y.mean(1, p), 245, 6);
        y.coin(0, 0, 6);
        fraction("for sure", p -> y.mean(1, p), 49, 1);
    }

    private static void meanGreatest() {
        due.at("Promise 23: the greatest MEAN, 980 by 1, and the greatest above, by 6^8");
        PromiseCoins x = many(10, 6);
        for (int i = 0; i < 10; i++) {
            x.change(i, 5, 49);
        }
        Towns.coins(x, 6, 6);
        fraction("ten for sure", p -> x.mean(1023, p), 980, 1);
        Towns.coins(x, 0, 6);
        fraction("ten never", p -> x.mean(1023, p), 20, 1);
    }

    /** A chain of ten by eight coins of 5 in 6: the tenth owes 98 if all are heads, else 2. */
    private static void meanGreatestBelow() {
        due.at("Promise 23: MEAN in lowest terms with 6^8 below");
        PromiseCoins x = many(8, 6);
        x.promise(6, 0, 0, 1);
        x.promise(6, 1, 0, 1);
        Towns.coins(x, 5, 6);
        x.change(9, 5, 49);
        // the tenth: 98 * 5^8 + 2 * (6^8 - 5^8) = 96 * 5^8 + 2 * 6^8, by 6^8; 96 = 2^5 * 3
        fraction("the tenth", p -> x.mean(512, p), 390625 + 2 * (ALL / 96), ALL / 96);
        PromiseCoins y = many(8, 6);
        Towns.coins(y, 5, 6);
        // 2 * (6^8 - 5^8) by 6^8
        fraction("no cost", p -> y.mean(128, p), ALL - 390625, ALL / 2);
    }

    private static void meanIsNoCutQuotient() {
        due.at("Promise 23: a MEAN is a fraction, and each FREED one's half is cut by itself");
        PromiseCoins x = many(3, 4);
        for (int i = 0; i < 3; i++) {
            x.change(i, 5, 2 * i + 1);
            x.coin(i, 1, 3);
        }
        fraction("0, 1 and 2 by 1 in 3", p -> x.mean(7, p), 1, 1);
        fraction("0 and 1", p -> x.mean(3, p), 1, 3);
        fraction("2", p -> x.mean(4, p), 2, 3);
    }

    private static void worthLeastAndGreatest() {
        due.at("Promise 24: 'MEAN of WORTHS of NEEDS that are MET by a set', from 0 by 1 to 594 by 1");
        PromiseCoins x = new PromiseCoins();
        fraction("nothing", p -> x.worth(0, p), 0, 1);
        for (int i = 0; i < 6; i++) {
            x.promise(0, i, i, 1);
            x.need(i, 1, 99);
        }
        fraction("none", p -> x.worth(0, p), 0, 1);
        Towns.coins(x, 6, 6);
        fraction("all", p -> x.worth(63, p), 594, 1);
        fraction("one", p -> x.worth(32, p), 99, 1);
        Towns.coins(x, 1, 6);
        fraction("1 in 6", p -> x.worth(63, p), 99, 1);
        fraction("one, 1 in 6", p -> x.worth(1, p), 33, 2);
        PromiseCoins y = many(8, 6);
        Towns.coins(y, 5, 6);
        y.need(0, 8, 1);
        fraction("1 by 5^8 in 6^8", p -> y.worth(255, p), 390625, ALL);
        fraction("never", p -> y.worth(127, p), 0, 1);
    }

    private static void worthOfOneNeedTwice() {
        due.at("Promise 24: two NEEDS of one THING are MET each for itself");
        PromiseCoins x = many(2, 0);
        x.need(0, 1, 3);
        x.need(0, 1, 4);
        x.need(0, 2, 5);
        fraction("3/4 of 7 and 1/4 of 5", p -> x.worth(3, p), 13, 2);
        fraction("half of 7", p -> x.worth(1, p), 7, 2);
    }

    private static void harmJustSo() {
        due.at("Promise 25: 'CHANCE that a set OWES more than so much'");
        PromiseCoins x = many(2, 0);
        x.change(0, 5, 49);
        x.change(1, 5, 1);
        int[][] want = {{0, 3, 4}, {1, 1, 2}, {48, 1, 2}, {49, 1, 4}, {50, 0, 1}, {51, 0, 1}};
        for (int[] w : want) {
            fraction("more than " + w[0], p -> x.harm(3, w[0], p), w[1], w[2]);
        }
        fraction("none", p -> x.harm(0, 0, p), 0, 1);
        x.change(0, 0, 3);
        fraction("a BACK one owes 1 at least", p -> x.harm(1, 0, p), 1, 1);
        fraction("and not more than 1", p -> x.harm(1, 1, p), 1, 2);
    }

    private static void harmLeastAndGreatest() {
        due.at("Promise 25: 'so much (0 to 9999)'");
        PromiseCoins x = many(10, 6);
        for (int i = 0; i < 10; i++) {
            x.change(i, 5, 49);
        }
        Towns.coins(x, 1, 1);
        fraction("more than 979", p -> x.harm(1023, 979, p), 1, 1);
        fraction("more than 980", p -> x.harm(1023, 980, p), 0, 1);
        fraction("more than 9999", p -> x.harm(1023, 9999, p), 0, 1);
        for (int bad : new int[] {-1, 10000, Integer.MIN_VALUE, Integer.MAX_VALUE}) {
            due.is("more than " + bad, x.harm(1023, bad, 0), Due.BEYOND);
        }
        Towns.coins(x, 1, 6);
        fraction("the smallest", p -> x.harm(128, 97, p), 1, ALL);
        fraction("all but the smallest: more than 1", p -> x.harm(128, 1, p), 1, 1);
    }

    private static void likelyOfSeveral() {
        due.at("Promise 26: 'How many KEPT ones of a set are likeliest (of several the fewest)'");
        for (int n = 0; n <= 8; n++) {
            PromiseCoins x = many(n, 0);
            due.is(n + " by 1 in 2", x.likely((1 << n) - 1), n / 2);
        }
        PromiseCoins y = new PromiseCoins();
        y.promise(0, 0, 0, 1);
        y.promise(5, 0, 0, 1);
        y.promise(0, 0, 0, 1);
        y.promise(0, 1, 0, 1);
        due.is("always one", y.likely(3), 1);
        due.is("one or two", y.likely(7), 1);
        due.is("none or two", y.likely(5), 0);
        y.coin(0, 3, 5);
        due.is("rather two", y.likely(5), 2);
        y.coin(0, 1, 2);
        y.coin(1, 2, 3);
        due.is("by 1, 2 and 3 in 6: two", y.likely(9), 1);
    }

    private static void likelyOfTenAndNone() {
        due.at("Promise 26: of no PROMISES and of ten, kept always and never");
        PromiseCoins x = new PromiseCoins();
        due.is("no promises", x.likely(0), 0);
        due.is("no such set", x.likely(1), Due.BEYOND);
        PromiseCoins y = many(10, 0);
        Towns.coins(y, 6, 6);
        due.is("always all ten", y.likely(1023), 10);
        due.is("the empty set", y.likely(0), 0);
        due.is("the tenth", y.likely(512), 1);
        Towns.coins(y, 0, 6);
        due.is("never", y.likely(1023), 0);
        due.is("no such set", y.likely(1024), Due.BEYOND);
        due.is("no such set", y.likely(-1), Due.BEYOND);
        due.is("no such set", y.likely(Integer.MIN_VALUE), Due.BEYOND);
    }

    private static void setsTakeTheirOwnAlone() {
        due.at("Terms 2: 'What is asked of \"a set\" takes PROMISES of the set alone'");
        PromiseCoins x = new PromiseCoins();
        x.promise(0, 0, 0, 2);
        x.promise(6, 1, 0, 3);
        x.change(0, 5, 10);
        x.change(1, 5, 4);
        x.need(0, 3, 8);
        x.need(0, 2, 4);
        fraction("sure: it asks for the one ahead", p -> x.sure(0, 2, p), 1, 4);
        fraction("sure: more than 2 by 3 alone", p -> x.sure(1, 2, p), 1, 4);
        fraction("all", p -> x.all(2, p), 1, 4);
        fraction("mean: 8 by 1 in 4, 2 by 3 in 4", p -> x.mean(2, p), 7, 2);
        fraction("worth", p -> x.worth(2, p), 3, 1);
        fraction("harm", p -> x.harm(2, 7, p), 1, 4);
        fraction("harm: the 10 of the one ahead aren't owed", p -> x.harm(2, 8, p), 0, 1);
        due.is("likely", x.likely(2), 0);
        x.coin(0, 1, 1);
        x.coin(1, 1, 1);
        due.is("likely: the one ahead isn't counted", x.likely(2), 1);
    }

    private static void askingChangesNothing() {
        due.at("Promises 18 to 34, 38, 43, 47, 48: what is asked changes nothing");
        Twins.asked(due, "weight", () -> Towns.made(10, 6), x -> x.weight(21), 96);
        Twins.asked(due, "chance", () -> Towns.made(10, 6), x -> x.chance(7, 1), 30);
        Twins.asked(due, "joint", () -> Towns.made(10, 6), x -> x.joint(4, 3, 0, 0), 5);
        Twins.asked(due, "sure", () -> Towns.made(10, 6), x -> x.sure(3, 1023, 0), 2);
        Twins.asked(due, "all", () -> Towns.made(10, 6), x -> x.all(1023, 0), 0);
        Twins.asked(due, "mean", () -> Towns.made(10, 6), x -> x.mean(1023, 0), 746);
        Twins.asked(due, "worth", () -> Towns.made(10, 6), x -> x.worth(1023, 0), 109);
        Twins.asked(due, "harm", () -> Towns.made(10, 6), x -> x.harm(2, 0, 1), 9);
        Twins.asked(due, "likely", () -> Towns.made(10, 6), x -> x.likely(1023), 5);
        Twins.asked(due, "fewest", () -> Towns.made(10, 6), x -> x.fewest(0, 1, 1), 256);
        Twins.asked(due, "cheapest", () -> Towns.made(10, 6), x -> x.cheapest(0, 1, 1), 256);
        Twins.asked(due, "most", () -> Towns.made(10, 6), x -> x.most(0, 0, 1), 513);
        Twins.asked(due, "best", () -> Towns.made(10, 6), PromiseCoins::best, 1 + 16 + 32);
        Twins.asked(due, "helps", () -> Towns.made(10, 6), x -> x.helps(), 1);
        Twins.asked(due, "hangs", () -> Towns.made(10, 6), x -> x.hangs(7), 128);
        Twins.asked(due, "asks", () -> Towns.made(10, 6), x -> x.asks(9), 8);
        Twins.asked(due, "apart", () -> Towns.made(10, 6), x -> x.apart(0, 3), 1);
        Twins.asked(due, "kept", () -> Towns.made(10, 6), PromiseCoins::kept, 261);
        Twins.asked(due, "owes", () -> Towns.made(10, 6), x -> x.owes(1023), 59);
        Twins.asked(due, "brings", () -> Towns.made(10, 6), x -> x.brings(1023, 0), 10);
        Twins.asked(due, "met", () -> Towns.made(10, 6), x -> x.met(1023), 1);
        Twins.asked(due, "as", () -> Towns.made(10, 6), x -> x.as(9, 0), 9);
        Twins.asked(due, "judge", () -> Towns.made(10, 6), x -> x.judge(1), 2);
        Twins.asked(due, "promiseOf", () -> Towns.made(10, 6), x -> x.promiseOf(9, 4), 8);
        Twins.asked(due, "needOf", () -> Towns.made(10, 6), x -> x.needOf(5, 2), 50);
        Twins.asked(due, "count", () -> Towns.made(10, 6), x -> x.count(4), Towns.Z);
        Twins.asked(due, "status", () -> Towns.made(10, 6), x -> x.status(-1), 0);
        Twins.asked(due, "image of what is there", ChancesEdgesTest::imaged, PromiseCoins::image, 1);
    }

    private static PromiseCoins imaged() {
        PromiseCoins x = Towns.made(10, 6);
        x.image();
        return x;
    }
}
