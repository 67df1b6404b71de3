/** Promises 1 to 3 and 5 to 11: each sentence that names a boundary case. */
public final class TownEdgesTest {
    private static final Due due = new Due();

    public static void main(String[] args) {
        newObjectTells();
        newObjectAsksAndCounts();
        newObjectsAreApart();
        feedTakesLowestBytes();
        feedPutsTheHighestFirst();
        feedFillsToTheEnd();
        feedKeepsBytesApart();
        wipeOfNothingAndOfAll();
        coinOfEachFraction();
        coinOfEachCoin();
        promisesUpToTen();
        promiseOfLeastAndGreatest();
        changeOfOnePartAlone();
        changeToWhatItIs();
        changeSecondAndCoinAlike();
        dropToNothing();
        dropAndSpots();
        dropOfTheFirstAndOnly();
        needsUpToSix();
        due.end();
    }

    private static void newObjectTells() {
        due.at("Promise 1: 'All as at first; no PROMISES, NEEDS; THE TAPE is empty, no image is kept.'");
        PromiseCoins x = new PromiseCoins();
        int[] counts = {0, 0, -1, 0, 1, 256, 0};
        for (int what = 0; what < 7; what++) {
            due.is("count " + what, x.count(what), counts[what]);
        }
        for (int which = -1; which < 7; which++) {
            due.is("status " + which, x.status(which), 0);
        }
        for (int t = 0; t < 256; t++) {
            due.is("weight", x.weight(t), 1);
        }
        due.is("no image", x.tear(), 0);
        due.is("no tape", x.wipe(), 0);
    }

    private static void newObjectAsksAndCounts() {
        due.at("Promise 1: what is asked of no PROMISES and no NEEDS, and 'SHEETS .. MISSING (at first)'");
        PromiseCoins x = new PromiseCoins();
        due.is("best", x.best(), 0);
        due.is("helps", x.helps(), 0);
        due.is("most", x.most(0, 0, 1), 0);
        due.is("likely", x.likely(0), 0);
        for (int coin = 0; coin < 8; coin++) {
            due.is("hangs", x.hangs(coin), 0);
            due.is("1 in 2 at first", x.coin(coin, 1, 2), 12);
        }
        for (int spot = 0; spot < 10; spot++) {
            due.is("spot", x.as(spot, 0), Due.MISSING);
        }
        for (int s = 0; s < 4; s++) {
            due.is("sheet", x.write(s, 0, 0), Due.MISSING);
        }
        due.is("no finding but these", x.status(-1), 14);
    }

    private static void newObjectsAreApart() {
        due.at("Promise 1: an object shares nothing with another one");
        PromiseCoins x = Towns.made(10, 6);
        PromiseCoins y = new PromiseCoins();
        due.holds("as new", Twins.told(y).equals(Twins.told(new PromiseCoins())));
        due.is("the first still has its promises", x.count(0), 10);
    }

    private static void feedTakesLowestBytes() {
        due.at("Promise 2: 'THE TAPE gets the n lowest bytes of a number behind it'");
        int[] above = {0, 0x20202020, 0x35353535, 0x7fffffff, 0x80000000, 0xffffffff, 0x3b3b3b3b};
        for (int other : above) {
            PromiseCoins x = new PromiseCoins();
            Towns.feed(x, "need");
            due.is("2 bytes", x.feed(other << 16 | 0x3520, 2), 6);
            due.is("1 byte", x.feed(other << 8 | 0x31, 1), 7);
            due.is("need5 1", x.town(), 1);
            due.is("THING 5", x.needOf(0, 0), 5);
            due.is("NUMBER 1", x.needOf(0, 1), 1);
            Towns.feed(x, "need ");
            due.is("3 bytes", x.feed(other << 24 | 0x342032, 3), 8);
            due.is("need 4 2", x.town(), 1);
            due.is("THING 4", x.needOf(1, 0), 4);
            due.is("NUMBER 2", x.needOf(1, 1), 2);
        }
    }

    private static void feedPutsTheHighestFirst() {
        due.at("Promise 2: 'the highest of these first (n 1 to 4): how many it has'");
        int[][] ways = {{0x6e656564, 4, 0x20312034, 4}, {0x6e6565, 3, 0x64203120, 4, 0x34, 1}, {0x6e65, 2, 0x656420, 3, 0x312034, 3}};
        for (int[] way : ways) {
            PromiseCoins x = new PromiseCoins();
            int many = 0;
            for (int i = 0; i < way.length; i += 2) {
                many += way[i + 1];
                due.is("how many", x.feed(way[i], way[i + 1]), many);
            }
            due.is("need 1 4", x.town(), 1);
            due.is("thing", x.needOf(0, 0), 1);
            due.is("number", x.needOf(0, 1), 4);
        }
    }

    private static void feedFillsToTheEnd() {
        due.at("Promise 2: 'FULL.': THE TAPE (bytes, at most 120)");
        for (int n = 1; n <= 4; n++) {
            PromiseCoins x = new PromiseCoins();
            for (int many = n; many <= 120; many += n) {
                due.is("up to 120 by " + n, x.feed(0x20202020, n), many);
            }
            due.is("no more", x.feed(0x20202020, n), Due.FULL);
            due.is("120", x.count(3), 120);
            due.is("emptied", x.wipe(), 120);
            due.is("room again", x.feed(0x20202020, n), n);
        }
        PromiseCoins y = new PromiseCoins();
        Towns.feed(y, " ".repeat(119));
        for (int n = 2; n <= 4; n++) {
            due.is("119 and " + n, y.feed(0x20202020, n), Due.FULL);
        }
        due.is("119 and 1", y.feed(32, 1), 120);
        due.is("read to its end", y.town(), -1 - 120);
        due.is("room again after town()", y.feed(32, 1), 1);
    }

    private static void feedKeepsBytesApart() {
        due.at("Promise 2: each byte of 0 to 255 is one byte of THE TAPE");
        for (int b = 0; b < 256; b++) {
            PromiseCoins x = new PromiseCoins();
            Towns.feed(x, "coin 0 1 in 3");
            due.is("byte " + b, x.feed(b, 1), 14);
            boolean isBlank = b == ' ';
            boolean isDigit = b >= '0' && b <= '9';
            due.is("behind a text, byte " + b, x.town(), isBlank ? 1 : b == ';' ? -15 : isDigit ? -13 : -14);
        }
    }

    private static void wipeOfNothingAndOfAll() {
        due.at("Promise 3: 'THE TAPE is empty: how many it had.'");
        PromiseCoins x = new PromiseCoins();
        due.is("none", x.wipe(), 0);
        x.feed(0, 1);
        due.is("one", x.wipe(), 1);
        due.is("none", x.wipe(), 0);
        Towns.feed(x, "x".repeat(120));
        due.is("all", x.wipe(), 120);
        due.is("none", x.count(3), 0);
        due.is("nothing of it is read", Towns.town(x, "need 0 1"), 1);
        PromiseCoins y = Towns.made(10, 6);
        PromiseCoins z = Towns.made(10, 6);
        due.is("thirteen", y.wipe(), 13);
        z.town();
        z.coin(3, 0, 1);
        Twins.same(due, "wipe() changes nothing but THE TAPE", y, z);
    }

    private static void coinOfEachFraction() {
        due.at("Terms 1: 'a CHANCE of a in b (b 1 to 6, a 0 to b)'; Promise 5: 'what it was, 10 a and b'");
        PromiseCoins x = new PromiseCoins();
        int was = 12;
        for (int b = 1; b <= 6; b++) {
            due.is("a below 0, b " + b, x.coin(4, -1, b), Due.BEYOND);
            due.is("a above b, b " + b, x.coin(4, b + 1, b), Due.BEYOND);
            for (int a = 0; a <= b; a++) {
                due.is(a + " in " + b, x.coin(4, a, b), was);
                was = 10 * a + b;
                due.is("heads", x.weight(16), a);
                due.is("tails", x.weight(0), b - a);
                due.is("ALL", x.count(5), 128 * b);
            }
        }
        for (int a = -1; a <= 8; a++) {
            due.is("b 0", x.coin(4, a, 0), Due.BEYOND);
            due.is("b 7", x.coin(4, a, 7), Due.BEYOND);
            due.is("b -1", x.coin(4, a, -1), Due.BEYOND);
        }
        due.is("it stays", x.coin(4, 1, 2), 66);
    }

    private static void coinOfEachCoin() {
        due.at("Promise 5: COINS 0 to 7, each for itself");
        PromiseCoins x = new PromiseCoins();
        for (int i = 0; i < 8; i++) {
            due.is("coin " + i, x.coin(i, i % 6, 6), 12);
        }
        for (int i = 0; i < 8; i++) {
            due.is("coin " + i, x.coin(i, 0, 1), 10 * (i % 6) + 6);
        }
        due.is("ALL is 1 at least", x.count(5), 1);
        due.is("and all of it is one throw", x.weight(0), 1);
    }

    private static void promisesUpToTen() {
        due.at("Promise 6: 'its number. .. FULL': PROMISES 0, 1, .. (at most 10)");
        PromiseCoins x = new PromiseCoins();
        for (int i = 0; i < 10; i++) {
            due.is("how many", x.count(0), i);
            due.is("its number", x.promise(0, 0, 0, 1), i);
            due.is("the set of all is one", x.all((2 << i) - 1, 1), 1);
            due.is("one more is none", x.all(2 << i, 1), Due.BEYOND);
        }
        due.is("an 11th", x.promise(0, 0, 0, 1), Due.FULL);
        due.is("ten", x.count(0), 10);
        due.is("room for one", x.drop(), 9);
        due.is("the tenth again", x.promise(6, 7, 5, 9), 9);
        due.is("no more", x.promise(0, 0, 0, 1), Due.FULL);
    }

    private static void promiseOfLeastAndGreatest() {
        due.at("Promise 6: 'with a COIN (and as SECOND the same one), COST 0', the least and the greatest of all");
        PromiseCoins x = new PromiseCoins();
        x.promise(0, 0, 0, 1);
        x.promise(6, 7, 5, 9);
        int[][] want = {{0, 0, 0, 0, 1, 0}, {6, 7, 7, 5, 9, 0}};
        for (int i = 0; i < 2; i++) {
            for (int what = 0; what < 6; what++) {
                due.is("promise " + i + ", " + what, x.promiseOf(i, what), want[i][what]);
            }
        }
        x.change(1, 5, 49);
        x.change(1, 2, 0);
        x.drop();
        x.promise(3, 4, 2, 5);
        due.is("a new one: SECOND isn't that of the one that was there", x.promiseOf(1, 2), 4);
        due.is("a new one: COST isn't that of the one that was there", x.promiseOf(1, 5), 0);
    }

    private static void changeOfOnePartAlone() {
        due.at("Promise 8: 'It becomes v: what it was', and nothing else becomes so");
        int[] least = {0, 0, 0, 0, 1, 0};
        int[] greatest = {6, 7, 7, 5, 9, 49};
        for (int what = 0; what < 6; what++) {
            PromiseCoins x = Towns.made(10, 6);
            for (int i : new int[] {0, 7, 9}) {
                int was = Towns.PROMISES[i][what];
                due.is("to the least", x.change(i, what, least[what]), was);
                due.is("to the greatest", x.change(i, what, greatest[what]), least[what]);
                due.is("too much", x.change(i, what, greatest[what] + 1), Due.BEYOND);
                due.is("too little", x.change(i, what, least[what] - 1), Due.BEYOND);
                due.is("back", x.change(i, what, was), greatest[what]);
            }
            PromiseCoins y = Towns.made(10, 6);
            Twins.same(due, "part " + what + " is as it was, and all others", x, y);
        }
    }

    private static void changeToWhatItIs() {
        due.at("Promise 8: v may be what it is");
        for (int what = 0; what < 6; what++) {
            int part = what;
            for (int i = 0; i < 10; i++) {
                int promise = i;
                int is = Towns.PROMISES[i][what];
                Twins.asked(due, "change(" + i + ", " + what + ", " + is + ")", () -> Towns.made(10, 6),
                        x -> x.change(promise, part, is), is);
            }
        }
    }

    private static void changeSecondAndCoinAlike() {
        due.at("Terms 1: 'a SECOND one (0 to 7; they may be the same)'");
        PromiseCoins x = new PromiseCoins();
        x.promise(1, 3, 0, 1);
        due.is("another one", x.change(0, 2, 5), 3);
        due.is("the same", x.change(0, 2, 3), 5);
        due.is("COIN becomes another, SECOND stays", x.change(0, 1, 6), 3);
        due.is("SECOND", x.promiseOf(0, 2), 3);
        due.is("COIN", x.promiseOf(0, 1), 6);
    }

    private static void dropToNothing() {
        due.at("Promise 9: 'how many there are. NONE.'");
        PromiseCoins x = Towns.made(10, 6);
        for (int i = 9; i >= 0; i--) {
            due.is("left", x.drop(), i);
            due.is("the one ahead of it stays", x.promiseOf(i - 1, 4), i > 0 ? Towns.PROMISES[i - 1][4] : Due.BEYOND);
            due.is("it is no more", x.promiseOf(i, 4), Due.BEYOND);
            due.is("its spot alone", x.count(6), i);
        }
        due.is("none", x.drop(), Due.NONE);
        due.is("none again", x.drop(), Due.NONE);
        due.is("none", x.count(0), 0);
        due.is("none is kept", x.kept(), 0);
        due.is("a first one", x.promise(1, 1, 1, 1), 0);
    }

    private static void dropAndSpots() {
        due.at("Promise 9: 'no SPOT holds it then'");
        PromiseCoins x = Towns.made(10, 6);
        for (int spot = 0; spot < 10; spot++) {
            x.hold(spot, 9);
        }
        due.is("nine left", x.drop(), 9);
        due.is("no spot", x.count(6), 0);
        x.promise(0, 0, 0, 1);
        for (int spot = 0; spot < 10; spot++) {
            due.is("nor the new one of its number", x.as(spot, 0), Due.MISSING);
        }
        due.is("a spot may hold it again", x.hold(9, 9), 1);
        due.is("it does", x.as(9, 0), 9);
    }

    private static void dropOfTheFirstAndOnly() {
        due.at("Promise 9: SPOTS that hold nothing stay so");
        PromiseCoins x = new PromiseCoins();
        x.promise(0, 0, 0, 1);
        x.hold(0, 0);
        due.is("none left", x.drop(), 0);
        due.is("no spot", x.count(6), 0);
        x.promise(0, 0, 0, 1);
        due.is("no spot holds number 0", x.count(6), 0);
    }

    private static void needsUpToSix() {
        due.at("Promise 10: 'its number. .. FULL': NEEDS 0, 1, .. (at most 6)");
        PromiseCoins x = new PromiseCoins();
        for (int i = 0; i < 6; i++) {
            due.is("how many", x.count(1), i);
            due.is("no such need", x.needOf(i, 0), Due.BEYOND);
            due.is("its number", x.need(i, 1 + 39 * (i % 2), 1 + 98 * (i % 2)), i);
        }
        due.is("a 7th", x.need(0, 1, 1), Due.FULL);
        due.is("six", x.count(1), 6);
        for (int i = 0; i < 6; i++) {
            due.is("THING", x.needOf(i, 0), i);
            due.is("NUMBER", x.needOf(i, 1), 1 + 39 * (i % 2));
            due.is("WORTH", x.needOf(i, 2), 1 + 98 * (i % 2));
        }
        due.is("no seventh", x.needOf(6, 0), Due.BEYOND);
    }
}
