/** Promises 27 to 36: each sentence that names a boundary case. */
public final class ChoicesEdgesTest {
    private static final Due due = new Due();

    public static void main(String[] args) {
        fewestOfNoPromises();
        fewestIfNothingIsAsked();
        fewestJustSo();
        fewestForSure();
        fewestOfSeveral();
        fewestOfTen();
        cheapestOfNoPromises();
        cheapestIfNothingIsAsked();
        cheapestJustSo();
        cheapestOfSeveral();
        cheapestOfTen();
        mostOfNoPromises();
        mostOfAll();
        mostJustSo();
        mostOfSeveral();
        mostNoneButTheEmptySet();
        ratiosAtTheirEnds();
        bestOfNothing();
        bestOfSeveral();
        bestOfTen();
        helpsOfNothing();
        helpsOfSeveral();
        helpsWhereACoinDoesHarm();
        hangsOfNothing();
        hangsByWeightlessThrows();
        asksOfEachKind();
        asksOfAChain();
        apartOfSureAndNever();
        apartOfCoinsBetween();
        triesOnceAndAHundredTimes();
        triesAsByCast();
        seedOfAnyInt();
        due.end();
    }

    private static final int[][] RATIOS = {{0, 0}, {1, 0}, {-1, -1}, {0, -1}, {-1, 1}, {-1, 999}, {2, 1}, {999, 998},
        {0, 1000}, {1, 1000}, {1000, 1000}, {1000, 999}, {Integer.MIN_VALUE, 1}, {1, Integer.MIN_VALUE},
        {Integer.MAX_VALUE, Integer.MAX_VALUE}, {0, Integer.MAX_VALUE}, {Integer.MAX_VALUE, 1}};

    private static PromiseCoins many(int promises, int kind) {
        PromiseCoins x = new PromiseCoins();
        for (int i = 0; i < promises; i++) {
            x.promise(kind, i % 8, 0, 1);
        }
        return x;
    }

    private static void fewestOfNoPromises() {
        due.at("Promise 27: 'The fewest PROMISES, as a set', of no PROMISES");
        PromiseCoins x = new PromiseCoins();
        due.is("no need either", x.fewest(0, 0, 1), Due.BEYOND);
        x.need(0, 1, 1);
        due.is("nothing is asked", x.fewest(0, 0, 1), 0);
        due.is("as little as can be", x.fewest(0, 1, 999), Due.NONE);
        due.is("for sure", x.fewest(0, 1, 1), Due.NONE);
    }

    private static void fewestIfNothingIsAsked() {
        due.at("Promise 27: 'a CHANCE of a in b or more (.. a 0 to b)', a 0: the empty set");
        PromiseCoins x = many(10, 0);
        x.need(0, 1, 1);
        x.need(5, 40, 1);
        for (int b : new int[] {1, 2, 998, 999}) {
            due.is("0 in " + b, x.fewest(0, 0, b), 0);
            due.is("0 in " + b + ", of a need that is never met", x.fewest(1, 0, b), 0);
        }
    }

    private static void fewestJustSo() {
        due.at("Promise 27: 'with a CHANCE of a in b or more', just so and a little more");
        PromiseCoins x = many(3, 0);
        x.coin(0, 1, 3);
        x.coin(1, 1, 3);
        x.coin(2, 1, 3);
        x.need(0, 1, 1);
        due.is("1 in 3", x.fewest(0, 1, 3), 1);
        due.is("333 in 999", x.fewest(0, 333, 999), 1);
        due.is("334 in 999", x.fewest(0, 334, 999), 3);
        due.is("5 in 9", x.fewest(0, 5, 9), 3);
        due.is("555 in 999", x.fewest(0, 555, 999), 3);
        due.is("556 in 999", x.fewest(0, 556, 999), 7);
        due.is("19 in 27", x.fewest(0, 19, 27), 7);
        due.is("703 in 999", x.fewest(0, 703, 999), 7);
        due.is("704 in 999", x.fewest(0, 704, 999), Due.NONE);
        due.is("1 in 1", x.fewest(0, 1, 1), Due.NONE);
    }

    private static void fewestForSure() {
        due.at("Promise 27: 'a CHANCE of a in b or more', a as great as b");
        PromiseCoins x = many(3, 0);
        x.need(0, 2, 1);
        x.coin(0, 5, 6);
        x.coin(1, 6, 6);
        for (int b : new int[] {1, 999}) {
            due.is("not for sure", x.fewest(0, b, b), Due.NONE);
        }
        x.coin(2, 1, 1);
        for (int b : new int[] {1, 2, 999}) {
            due.is("for sure", x.fewest(0, b, b), 6);
        }
        due.is("by two of three", x.fewest(0, 5, 6), 3);
    }

    private static void fewestOfSeveral() {
        due.at("Terms: 'of several that would do the least number counts': of those of the fewest");
        PromiseCoins x = new PromiseCoins();
        x.promise(0, 0, 0, 1);
        x.promise(0, 0, 0, 1);
        x.promise(0, 0, 1, 9);
        x.promise(0, 0, 0, 2);
        x.promise(0, 0, 0, 2);
        x.need(0, 2, 1);
        due.is("one, though 0 and 1 are a lesser number", x.fewest(0, 1, 2), 8);
        x.change(3, 3, 1);
        due.is("the last", x.fewest(0, 1, 2), 16);
        x.change(4, 4, 1);
        due.is("two of three", x.fewest(0, 1, 2), 3);
    }

    private static void fewestOfTen() {
        due.at("Promise 27: all ten are asked, or the tenth alone");
        PromiseCoins x = many(10, 0);
        Towns.coins(x, 1, 1);
        x.need(0, 10, 1);
        x.need(0, 9, 1);
        x.need(0, 11, 1);
        due.is("ten", x.fewest(0, 1, 1), 1023);
        due.is("nine", x.fewest(1, 1, 1), 511);
        due.is("eleven", x.fewest(2, 1, 999), Due.NONE);
        x.change(9, 4, 9);
        due.is("the tenth and the first", x.fewest(0, 1, 1), 513);
        due.is("the tenth", x.fewest(1, 1, 1), 512);
    }

    private static void cheapestOfNoPromises() {
        due.at("Promise 28: 'The PROMISES, as a set, of the least MEAN of what they OWE', of no PROMISES");
        PromiseCoins x = new PromiseCoins();
        due.is("no need either", x.cheapest(0, 0, 1), Due.BEYOND);
        x.need(0, 1, 1);
        due.is("nothing is asked", x.cheapest(0, 0, 1), 0);
        due.is("something is", x.cheapest(0, 1, 999), Due.NONE);
    }

    private static void cheapestIfNothingIsAsked() {
        due.at("Promise 28: a 0: the empty set, the least number of those that OWE nothing");
        PromiseCoins x = many(10, 0);
        x.need(0, 1, 1);
        for (int b : new int[] {1, 999}) {
            due.is("0 in " + b, x.cheapest(0, 0, b), 0);
        }
    }

    private static void cheapestJustSo() {
        due.at("Promise 28: 'by which it is so': with a CHANCE of a in b or more, just so and a little more");
        PromiseCoins x = many(2, 0);
        x.coin(0, 5, 6);
        x.coin(1, 1, 3);
        x.change(0, 5, 49);
        x.change(1, 5, 1);
        x.need(0, 1, 1);
        due.is("333 in 999", x.cheapest(0, 333, 999), 2);
        due.is("334 in 999", x.cheapest(0, 334, 999), 1);
        due.is("5 in 6", x.cheapest(0, 5, 6), 1);
        due.is("832 in 999", x.cheapest(0, 832, 999), 1);
        due.is("833 in 999", x.cheapest(0, 833, 999), 3);
        due.is("8 in 9", x.cheapest(0, 8, 9), 3);
        due.is("888 in 999", x.cheapest(0, 888, 999), 3);
        due.is("889 in 999", x.cheapest(0, 889, 999), Due.NONE);
    }

    private static void cheapestOfSeveral() {
        due.at("Terms: 'of several that would do the least number counts', not the fewest");
        PromiseCoins x = many(3, 0);
        Towns.coins(x, 1, 1);
        x.need(0, 2, 1);
        x.change(2, 4, 2);
        x.change(0, 5, 3);
        x.change(1, 5, 4);
        x.change(2, 5, 7);
        due.is("0 and 1 for 7, or 2 for 7", x.cheapest(0, 1, 1), 3);
        due.is("the fewest", x.fewest(0, 1, 1), 4);
        x.change(2, 5, 6);
        due.is("2 for 6", x.cheapest(0, 1, 1), 4);
        x.change(2, 0, 6);
        due.is("2 for 12", x.cheapest(0, 1, 1), 3);
        x.change(2, 0, 4);
        due.is("2 for 3", x.cheapest(0, 1, 1), 4);
        x.change(0, 5, 0);
        due.is("one at no cost does not come along, since that is a greater number", x.cheapest(0, 1, 1), 4);
        x.change(1, 5, 3);
        due.is("0 and 1 for 3", x.cheapest(0, 1, 1), 3);
    }

    private static void cheapestOfTen() {
        due.at("Promise 28: all ten, and MEAN of what they OWE though they are not KEPT");
        PromiseCoins x = many(10, 6);
        Towns.coins(x, 1, 1);
        for (int i = 0; i < 10; i++) {
            x.change(i, 5, 49);
        }
        x.need(0, 10, 1);
        x.need(0, 1, 1);
        due.is("ten", x.cheapest(0, 1, 1), 1023);
        due.is("one", x.cheapest(1, 1, 1), 1);
        x.change(9, 5, 48);
        due.is("the tenth", x.cheapest(1, 1, 1), 512);
        x.change(0, 0, 3);
        due.is("the first", x.cheapest(1, 1, 1), 1);
        PromiseCoins y = new PromiseCoins();
        y.promise(6, 0, 0, 1);
        y.promise(0, 0, 0, 1);
        y.need(0, 1, 1);
        y.coin(0, 1, 6);
        y.change(1, 5, 9);
        due.is("2 by 5 in 6 is more than 9 by 1 in 6", y.cheapest(0, 1, 6), 2);
        y.change(1, 5, 11);
        due.is("but less than 11 by 1 in 6", y.cheapest(0, 1, 6), 1);
        y.change(1, 5, 10);
        due.is("as much as 10 by 1 in 6", y.cheapest(0, 1, 6), 1);
    }

    private static void mostOfNoPromises() {
        due.at("Promise 29: 'The most PROMISES, as a set', of no PROMISES");
        PromiseCoins x = new PromiseCoins();
        due.is("0", x.most(0, 0, 1), 0);
        due.is("9999", x.most(9999, 999, 999), 0);
    }

    private static void mostOfAll() {
        due.at("Promise 29: all ten, if so much is enough, or a as great as b");
        PromiseCoins x = many(10, 6);
        Towns.coins(x, 1, 1);
        for (int i = 0; i < 10; i++) {
            x.change(i, 5, 49);
        }
        due.is("980", x.most(980, 0, 1), 1023);
        due.is("979", x.most(979, 0, 1), 511);
        due.is("9999", x.most(9999, 0, 999), 1023);
        due.is("0, with any CHANCE", x.most(0, 1, 1), 1023);
        due.is("0, with any CHANCE", x.most(0, 999, 999), 1023);
        due.is("0, with nearly any", x.most(0, 998, 999), 0);
        due.is("98", x.most(98, 0, 1), 1);
        due.is("97", x.most(97, 0, 1), 0);
    }

    private static void mostJustSo() {
        due.at("Promise 29: 'OWE more than so much .. with a CHANCE of a in b .. or less', just so and a little less");
        PromiseCoins x = many(2, 0);
        x.coin(0, 1, 3);
        x.coin(1, 1, 3);
        x.change(0, 5, 10);
        x.change(1, 5, 20);
        int[][] want = {{0, 554, 1}, {0, 555, 3}, {0, 333, 1}, {0, 332, 0}, {9, 554, 1}, {9, 555, 3}, {10, 332, 1},
            {10, 333, 3}, {19, 333, 3}, {20, 111, 3}, {20, 110, 1}, {29, 111, 3}, {29, 110, 1}, {30, 0, 3}, {29, 0, 1}};
        for (int[] w : want) {
            due.is("more than " + w[0] + ", " + w[1] + " in 999", x.most(w[0], w[1], 999), w[2]);
        }
        due.is("5 in 9", x.most(0, 5, 9), 3);
        due.is("4 in 9", x.most(0, 4, 9), 1);
    }

    private static void mostOfSeveral() {
        due.at("Terms: 'of several that would do the least number counts': of those of the most");
        PromiseCoins x = many(4, 0);
        Towns.coins(x, 1, 1);
        for (int i = 0; i < 4; i++) {
            x.change(i, 5, 5);
        }
        due.is("two of four", x.most(10, 0, 1), 3);
        x.change(0, 5, 8);
        due.is("1 and 2", x.most(10, 0, 1), 6);
        x.change(1, 5, 6);
        due.is("2 and 3", x.most(10, 0, 1), 12);
        x.change(2, 5, 11);
        due.is("one of them: the least", x.most(10, 0, 1), 1);
        x.change(2, 5, 0);
        due.is("0 and 2", x.most(10, 0, 1), 5);
    }

    private static void mostNoneButTheEmptySet() {
        due.at("Promise 29: the empty set OWES nothing, and will always do (no NONE)");
        PromiseCoins x = many(10, 3);
        due.is("each owes 1 or nothing", x.most(0, 0, 1), 0);
        due.is("two of one coin", x.most(0, 1, 2), 1 + 256);
        Towns.coins(x, 1, 1);
        due.is("none owes anything", x.most(0, 0, 1), 1023);
        for (int i = 0; i < 10; i++) {
            x.change(i, 5, 1);
        }
        due.is("each owes 1 for sure", x.most(0, 0, 1), 0);
        due.is("nearly sure is too much", x.most(0, 998, 999), 0);
        due.is("one may owe 1", x.most(1, 0, 1), 1);
        due.is("no finding", x.status(-1), 0);
    }

    private static void ratiosAtTheirEnds() {
        due.at("Promises 27 to 29: 'b 1 to 999, a 0 to b'");
        PromiseCoins x = many(2, 0);
        x.need(0, 1, 1);
        for (int[] r : RATIOS) {
            if (r[1] < 1 || r[1] > 999 || r[0] < 0 || r[0] > r[1]) {
                due.is("fewest " + r[0] + " in " + r[1], x.fewest(0, r[0], r[1]), Due.BEYOND);
                due.is("cheapest " + r[0] + " in " + r[1], x.cheapest(0, r[0], r[1]), Due.BEYOND);
                due.is("most " + r[0] + " in " + r[1], x.most(0, r[0], r[1]), Due.BEYOND);
            }
        }
        due.is("all were refused", x.status(0), 3 * RATIOS.length);
        due.is("the least that is asked", x.fewest(0, 1, 999), 1);
        due.is("just 3 in 4", x.fewest(0, 749, 999), 3);
        due.is("a little more", x.fewest(0, 750, 999), Due.NONE);
    }

    private static void bestOfNothing() {
        due.at("Promise 30: 'for which MEAN of WORTHS less MEAN of what they OWE is greatest', of nothing");
        PromiseCoins x = new PromiseCoins();
        due.is("no promises", x.best(), 0);
        x.need(0, 1, 99);
        due.is("a need", x.best(), 0);
        PromiseCoins y = many(10, 0);
        due.is("no needs, no costs: the least number", y.best(), 0);
        y.change(0, 5, 1);
        due.is("no needs", y.best(), 0);
        PromiseCoins z = many(10, 3);
        z.need(0, 1, 1);
        Towns.coins(z, 1, 2);
        due.is("1/2 less 1/2 is nothing", z.best(), 0);
        z.change(0, 0, 0);
        due.is("a plain one", z.best(), 1);
    }

    private static void bestOfSeveral() {
        due.at("Promise 30: of several that are as great the least number");
        PromiseCoins x = many(3, 0);
        Towns.coins(x, 1, 1);
        x.need(0, 1, 10);
        x.change(0, 5, 5);
        x.change(1, 5, 5);
        x.change(2, 5, 4);
        due.is("the cheap one", x.best(), 4);
        x.change(2, 5, 5);
        due.is("all alike", x.best(), 1);
        x.change(0, 5, 10);
        due.is("the second", x.best(), 2);
        x.change(1, 5, 10);
        x.change(2, 5, 10);
        due.is("as dear as it is worth", x.best(), 0);
        x.change(2, 5, 9);
        due.is("just less", x.best(), 4);
        x.need(0, 2, 12);
        due.is("0 and 2, or 1 and 2, owe 19 for 22", x.best(), 5);
    }

    private static void bestOfTen() {
        due.at("Promise 30: all ten, and the greatest of all");
        PromiseCoins x = new PromiseCoins();
        for (int i = 0; i < 10; i++) {
            x.promise(0, i % 8, 3, 4);
            x.change(i, 5, 9);
        }
        Towns.coins(x, 1, 1);
        x.need(3, 40, 99);
        due.is("90 for 99", x.best(), 1023);
        x.change(9, 5, 18);
        due.is("99 for 99", x.best(), 0);
        x.change(9, 5, 17);
        due.is("98 for 99", x.best(), 1023);
        for (int i = 0; i < 5; i++) {
            x.need(3, 36, 99);
        }
        due.is("81 for 495, and 17 for 99", x.best(), 1023);
        x.coin(1, 0, 1);
        due.is("two of them are never kept", x.best(), 0);
    }

    private static void helpsOfNothing() {
        due.at("Promise 31: of no NEEDS, of no PROMISES, and if all are MET already: the least COIN");
        PromiseCoins x = new PromiseCoins();
        x.need(0, 1, 1);
        due.is("no promises", x.helps(), 0);
        PromiseCoins y = new PromiseCoins();
        y.promise(0, 7, 0, 1);
        due.is("no needs", y.helps(), 0);
        y.need(0, 1, 1);
        due.is("by the last coin", y.helps(), 7);
        y.coin(7, 3, 3);
        due.is("it is HEADS for sure already", y.helps(), 0);
        y.coin(7, 0, 6);
        due.is("it is never HEADS", y.helps(), 7);
        due.is("it stays", y.coin(7, 1, 2), 6);
        y.need(0, 2, 99);
        due.is("what can't be met helps nothing", y.helps(), 7);
    }

    private static void helpsOfSeveral() {
        due.at("Promise 31: 'The COIN with which, if it were HEADS for sure (1 in 1), MEAN .. would be greatest'");
        PromiseCoins x = new PromiseCoins();
        for (int i = 0; i < 8; i++) {
            x.promise(0, i, i % 6, 1);
        }
        x.need(3, 1, 10);
        x.need(4, 1, 10);
        due.is("3 and 4 alike: the least", x.helps(), 3);
        x.coin(3, 2, 3);
        due.is("4 gains more", x.helps(), 4);
        x.coin(4, 2, 3);
        due.is("alike again", x.helps(), 3);
        x.coin(4, 5, 6);
        x.coin(3, 5, 6);
        x.need(5, 1, 3);
        due.is("3 by 1 in 2 is less than 10 by 1 in 6", x.helps(), 3);
        x.need(5, 1, 1);
        due.is("4 by 1 in 2 is more than 10 by 1 in 6", x.helps(), 5);
        x.need(0, 2, 9);
        x.coin(0, 1, 1);
        due.is("6 helps 0: 9 by 1 in 2", x.helps(), 6);
    }

    private static void helpsWhereACoinDoesHarm() {
        due.at("Promise 31: 'by all PROMISES': a COIN may do harm, and the one that does none counts");
        PromiseCoins x = new PromiseCoins();
        for (int i = 0; i < 7; i++) {
            x.promise(5, i, 0, 1);
        }
        x.need(0, 7, 5);
        due.is("all but 7 do harm", x.helps(), 7);
        x.promise(5, 7, 0, 1);
        x.need(0, 8, 5);
        due.is("each does as much: the least", x.helps(), 0);
        x.change(3, 1, 7);
        x.change(3, 2, 7);
        due.is("3 does none", x.helps(), 3);
    }

    private static void hangsOfNothing() {
        due.at("Promise 32: 'PROMISES that hang by a COIN', of none, of one that never or always is KEPT, of ten");
        PromiseCoins x = new PromiseCoins();
        for (int coin = 0; coin < 8; coin++) {
            due.is("none", x.hangs(coin), 0);
        }
        for (int i = 0; i < 10; i++) {
            x.promise(6, 7, 0, 1);
        }
        due.is("all ten", x.hangs(7), 1023);
        due.is("none by another", x.hangs(0), 0);
        x.change(0, 0, 5);
        due.is("behind a tailed one by the same coin no other is ever kept", x.hangs(7), 1);
        x.change(0, 0, 0);
        x.change(0, 1, 0);
        due.is("by the coin of the first", x.hangs(0), 1023);
        due.is("all but the first", x.hangs(7), 1022);
        for (int bad : new int[] {-1, 8, 32, Integer.MIN_VALUE, Integer.MAX_VALUE}) {
            due.is("no COIN " + bad, x.hangs(bad), Due.BEYOND);
            due.is("no PROMISE " + bad, x.asks(bad == 8 ? 10 : bad), Due.BEYOND);
        }
    }

    private static void hangsByWeightlessThrows() {
        due.at("Promise 32: 'KEPT in some THROW, and not in that which differs by this COIN alone': of all 256 THROWS");
        PromiseCoins x = new PromiseCoins();
        Towns.add(x, 1, 0, 1, 0, 1, 0);
        Towns.add(x, 2, 0, 1, 0, 1, 0);
        Towns.add(x, 5, 0, 1, 0, 1, 0);
        for (int a = 0; a <= 1; a++) {
            Towns.coins(x, a, 1);
            due.is("by COIN, though there is but one THROW of WEIGHT", x.hangs(0), 7);
            due.is("by SECOND", x.hangs(1), 7);
            due.is("by both", x.asks(0), 3);
        }
    }

    private static void asksOfEachKind() {
        due.at("Promise 33: 'COINS by which a PROMISE hangs, as a set.'");
        for (int kind = 0; kind < 7; kind++) {
            PromiseCoins x = new PromiseCoins();
            Towns.add(x, kind, 0, 7, 0, 1, 0);
            due.is("kind " + kind, x.asks(0), kind == 0 || kind == 4 ? 1 : 129);
            x.change(0, 2, 0);
            due.is("one coin, kind " + kind, x.asks(0), 1);
            x.change(0, 1, 7);
            x.change(0, 2, 7);
            due.is("the last coin, kind " + kind, x.asks(0), 128);
        }
    }

    private static void asksOfAChain() {
        due.at("Promise 33: all eight COINS, and none");
        PromiseCoins x = many(10, 6);
        for (int i = 0; i < 10; i++) {
            due.is("number " + i, x.asks(i), i < 8 ? (2 << i) - 1 : 255);
        }
        x.change(7, 0, 5);
        due.is("a tailed one between asks for its own coin alone", x.asks(7), 128);
        due.is("behind it", x.asks(8), 129);
        due.is("behind that", x.asks(9), 128 + 1 + 2);
        x.change(8, 1, 7);
        due.is("never kept", x.asks(8), 0);
        due.is("nor behind it", x.asks(9), 0);
        due.is("no 11th", x.asks(10), Due.BEYOND);
    }

    private static void apartOfSureAndNever() {
        due.at("Promise 34: 'APART, if CHANCE of both is that of one times that of the other': of 0 and of 1");
        PromiseCoins x = new PromiseCoins();
        x.promise(0, 0, 0, 1);
        x.promise(0, 0, 0, 1);
        x.promise(5, 0, 0, 1);
        due.is("alike, 1 in 2", x.apart(0, 1), 0);
        due.is("never both, 1 in 2", x.apart(0, 2), 0);
        for (int b = 1; b <= 6; b++) {
            x.coin(0, 0, b);
            due.is("never", x.apart(0, 1), 1);
            due.is("never and always", x.apart(2, 0), 1);
            x.coin(0, b, b);
            due.is("always", x.apart(1, 0), 1);
            due.is("always and never", x.apart(0, 2), 1);
        }
        x.coin(0, 5, 6);
        due.is("alike, 5 in 6", x.apart(0, 1), 0);
        due.is("no finding", x.status(-1), 0);
    }

    private static void apartOfCoinsBetween() {
        due.at("Promise 34: APART by numbers, though by COINS of both; and the greatest WEIGHTS");
        PromiseCoins x = new PromiseCoins();
        Towns.add(x, 2, 0, 1, 0, 1, 0);
        Towns.add(x, 0, 2, 2, 0, 1, 0);
        Towns.coins(x, 5, 6);
        due.is("no COIN of both", x.apart(0, 1), 1);
        x.change(1, 1, 1);
        due.is("a COIN of both", x.apart(0, 1), 0);
        PromiseCoins y = many(10, 6);
        Towns.coins(y, 5, 6);
        due.is("the first and the tenth of a chain", y.apart(0, 9), 0);
        due.is("the tenth and the first", y.apart(9, 0), 0);
        y.change(9, 0, 0);
        y.change(9, 1, 7);
        due.is("not of the chain, 7 and not 7", y.apart(6, 9), 1);
        due.is("7 and 7", y.apart(7, 9), 0);
        y.change(8, 0, 0);
        due.is("sums of 6^8 times 6^8 don't wrap around", y.apart(8, 9), 1);
    }

    private static void triesOnceAndAHundredTimes() {
        due.at("Promise 35: 'n THROWS (1 to 100) are drawn'");
        PromiseCoins x = many(1, 0);
        x.need(0, 1, 1);
        x.need(0, 2, 1);
        x.coin(0, 1, 1);
        due.is("once", x.tries(0, 1, 1), 1);
        due.is("a hundred times", x.tries(0, 1, 100), 100);
        due.is("by the empty set", x.tries(0, 0, 100), 0);
        due.is("never", x.tries(1, 1, 100), 0);
        x.coin(0, 0, 1);
        due.is("tails", x.tries(0, 1, 100), 0);
        int z = x.count(4);
        for (int bad : new int[] {0, 101, -1, -100, 257, Integer.MIN_VALUE, Integer.MAX_VALUE}) {
            due.is(bad + " times", x.tries(0, 1, bad), Due.BEYOND);
        }
        due.is("nothing is drawn then", x.count(4), z);
        due.is("no THROW has become the latest", x.count(2), -1);
    }

    private static void triesAsByCast() {
        due.at("Promise 35: 'drawn as by cast() (THE LATEST THROW stays)', also where z wraps around");
        for (int seed : new int[] {1, 0, -1, Integer.MIN_VALUE, Integer.MAX_VALUE, 77}) {
            for (int n : new int[] {1, 2, 37}) {
                PromiseCoins x = Towns.made(10, 6);
                PromiseCoins y = Towns.made(10, 6);
                x.seed(seed);
                y.seed(seed);
                int hits = 0;
                for (int i = 0; i < n; i++) {
                    y.cast();
                    hits += y.met(1023) >> 4 & 1;
                }
                due.is("seed " + seed, x.tries(4, 1023, n), hits);
                due.is("z", x.count(4), y.count(4));
                due.is("THE LATEST THROW stays", x.count(2), Towns.LATEST);
                y.lay(Towns.LATEST);
                Twins.same(due, "and all else", x, y);
            }
        }
    }

    private static void seedOfAnyInt() {
        due.at("Promise 36: 'z becomes v: what it was'; Terms: 'may be any int: that is no finding'");
        PromiseCoins x = new PromiseCoins();
        int was = 1;
        for (int v : new int[] {0, -1, Integer.MIN_VALUE, Integer.MAX_VALUE, -1000000, -1000001, -1000002, -1000003,
            -1000004, -1000005, -1000006, -1000007, -1000008, 1}) {
            due.is("what it was", x.seed(v), was);
            due.is("what it is", x.count(4), v);
            due.is("no finding", x.status(-1), 0);
            was = v;
        }
        Twins.asked(due, "seed of what it is", () -> Towns.made(10, 6), y -> y.seed(Towns.Z), Towns.Z);
    }
}
