/** Promises 1 to 11: a new object, the tape, texts, coins, promises and needs. */
public final class TownTest {
    private static final Due due = new Due();

    public static void main(String[] args) {
        newObject();
        feed();
        wipe();
        townItems();
        townFaults();
        townLimits();
        coin();
        promise();
        promiseOf();
        change();
        drop();
        need();
        needOf();
        due.end();
    }

    private static void newObject() {
        due.at("1 new object");
        PromiseCoins x = new PromiseCoins();
        due.is("promises", x.count(0), 0);
        due.is("needs", x.count(1), 0);
        due.is("latest throw", x.count(2), -1);
        due.is("tape", x.count(3), 0);
        due.is("z", x.count(4), 1);
        due.is("all", x.count(5), 256);
        due.is("spots", x.count(6), 0);
        due.is("status", x.status(-1), 0);
        due.is("undo", x.undo(), Due.NONE);
        due.is("tear", x.tear(), 0);
        for (int i = 0; i < 8; i++) {
            due.is("coin", x.coin(i, 1, 2), 12);
        }
        for (int s = 0; s < 4; s++) {
            due.is("sheet is missing", x.load(s), Due.MISSING);
        }
        for (int s = 0; s < 10; s++) {
            due.is("spot is empty", x.as(s, 0), Due.MISSING);
        }
    }

    private static void feed() {
        due.at("2 feed");
        PromiseCoins x = new PromiseCoins();
        due.is("n 0", x.feed(1, 0), Due.BEYOND);
        due.is("n 5", x.feed(1, 5), Due.BEYOND);
        due.is("n least int", x.feed(1, Integer.MIN_VALUE), Due.BEYOND);
        due.is("n greatest int", x.feed(1, Integer.MAX_VALUE), Due.BEYOND);
        due.is("need", x.feed(0x6e656564, 4), 4);
        due.is(" 0 ", x.feed(0x7f203020, 3), 7);
        due.is("1 and a blank", x.feed(0x7fff3120, 2), 9);
        due.is("blank", x.feed(0x12345620, 1), 10);
        due.is("highest first", x.town(), 1);
        due.is("thing", x.needOf(0, 0), 0);
        due.is("number", x.needOf(0, 1), 1);
        for (int i = 1; i <= 29; i++) {
            due.is("fill", x.feed(0x20202020, 4), 4 * i);
        }
        due.is("119", x.feed(0x202020, 3), 119);
        due.is("full by 2", x.feed(0x2020, 2), Due.FULL);
        due.is("beyond asked ahead of full", x.feed(0, 9), Due.BEYOND);
        due.is("120", x.feed(0x20, 1), 120);
        due.is("full by 1", x.feed(0x20, 1), Due.FULL);
        due.is("nothing came", x.count(3), 120);
        due.is("signed bytes begin no token", x.wipe(), 120);
        due.is("byte 255", x.feed(-1, 4), 4);
        due.is("fault", x.town(), -1);
    }

    private static void wipe() {
        due.at("3 wipe");
        PromiseCoins x = new PromiseCoins();
        due.is("empty", x.wipe(), 0);
        Due.feed(x, "junk");
        due.is("had", x.wipe(), 4);
        due.is("now", x.count(3), 0);
        due.is("again", x.wipe(), 0);
        due.is("what comes then stands alone", Due.town(x, "need 0 1"), 1);
    }

    private static void promiseIs(PromiseCoins x, int i, int... parts) {
        for (int what = 0; what < 6; what++) {
            due.is("promise " + i + " part " + what, x.promiseOf(i, what), parts[what]);
        }
    }

    private static void needIs(PromiseCoins x, int i, int thing, int number, int worth) {
        due.is("need thing", x.needOf(i, 0), thing);
        due.is("need number", x.needOf(i, 1), number);
        due.is("need worth", x.needOf(i, 2), worth);
    }

    private static void townItems() {
        due.at("4 town");
        PromiseCoins x = new PromiseCoins();
        due.is("coins", Due.town(x, "coin 7 6 in 6;coin 0 0 in 1;coin 7 2 in 3"), 3);
        due.is("the later item counts", x.coin(7, 1, 2), 23);
        due.is("0 in 1", x.coin(0, 1, 2), 1);
        due.is("tape is empty", x.count(3), 0);
        due.is("all kinds", Due.town(x, "promise 0 brings 0 1;iffed 1 with 7 brings 5 9 cost 49;either 2 with 0 brings 1 2 cost 0"), 3);
        due.is("more", Due.town(x, "back 3 brings 2 3 cost 7;freed 4 brings 3 4;tailed 5 brings 4 5;chained 6 brings 5 6"), 4);
        due.is("promises", x.count(0), 7);
        promiseIs(x, 0, 0, 0, 0, 0, 1, 0);
        promiseIs(x, 1, 1, 1, 7, 5, 9, 49);
        promiseIs(x, 2, 2, 2, 0, 1, 2, 0);
        promiseIs(x, 3, 3, 3, 3, 2, 3, 7);
        promiseIs(x, 4, 4, 4, 4, 3, 4, 0);
        promiseIs(x, 5, 5, 5, 5, 4, 5, 0);
        promiseIs(x, 6, 6, 6, 6, 5, 6, 0);
        due.is("needs", Due.town(x, "need 5 40 worth 99;need 0 1"), 2);
        needIs(x, 0, 5, 40, 99);
        needIs(x, 1, 0, 1, 1);
        due.is("no blanks", Due.town(x, "need0 1worth2;coin1 2in3;promise3with4brings5 6cost7"), 3);
        promiseIs(x, 7, 0, 3, 4, 5, 6, 7);
        due.is("many blanks", Due.town(x, "   need   1   2  worth  3  ;  need 2 3   "), 2);
        due.is("leading noughts", Due.town(x, "need 00002 0000000000000000040"), 1);
        needIs(x, 5, 2, 40, 1);
        due.is("no finding", x.status(-1), 0);
    }

    private static void fault(String text, int place) {
        PromiseCoins x = new PromiseCoins();
        due.is("'" + text + "'", Due.town(x, text), -1 - place);
        due.is("tape is empty after " + text, x.count(3), 0);
        due.is("no promise after " + text, x.count(0), 0);
        due.is("no need after " + text, x.count(1), 0);
        due.is("no coin after " + text, x.count(5), 256);
        due.is("no finding after " + text, x.status(-1), 0);
    }

    private static void townFaults() {
        due.at("4 town, faults");
        fault("", 0);
        fault("   ", 3);
        fault(";", 0);
        fault("coin 0 1 in 3;", 14);
        fault("coin 0 1 in 3 ; ", 16);
        fault("coin 0 1 in 3;;", 14);
        fault("coin 0 1 in 3 5", 14);
        fault("coin 0 1 in 3 need 0 1", 14);
        fault("coin 0 1 in 3;promise 8 brings 0 1", 22);
        fault("coins 0 1 in 3", 0);
        fault("Coin 0 1 in 3", 0);
        fault("cOin 0 1 in 3", 0);
        fault("\tcoin 0 1 in 3", 0);
        fault("coin\n0 1 in 3", 4);
        fault("coin 8 1 in 3", 5);
        fault("coin 0 7 in 6", 7);
        fault("coin 0 1 on 3", 9);
        fault("coin 0 1 in 0", 12);
        fault("coin 0 4 in 3", 12);
        fault("coin 0 1 in 7", 12);
        fault("coin 0 1 in", 11);
        fault("coin 0 1", 8);
        fault("coin 0 11 in 3", 7);
        fault("coin in 1 in 3", 5);
        fault("coin -1 1 in 3", 5);
        fault("coin 0 1 in 3.", 13);
        fault("3", 0);
        fault("in 3", 0);
        fault("promise", 7);
        fault("promise x", 8);
        fault("promise 8 brings 0 1", 8);
        fault("promise 0 with 8 brings 0 1", 15);
        fault("promise 0 with brings 0 1", 15);
        fault("promise 0 width 1 brings 0 1", 10);
        fault("promise 0 brings 6 1", 17);
        fault("promise 0 brings 0 0", 19);
        fault("promise 0 brings 0 10", 19);
        fault("promise 0 brings 0 1 cost 50", 26);
        fault("promise 0 brings 0 1 cost", 25);
        fault("promise 0 brings 0 1 worth 5", 21);
        fault("promise 0 brings 0 1 cost 5 cost 5", 28);
        fault("promise 0 brings 0 1 with 5", 21);
        fault("promise 0 brings 0 1000", 19);
        fault("promise 0 brings 0 4294967297", 19);
        fault("need 6 1", 5);
        fault("need 0 0", 7);
        fault("need 0 41", 7);
        fault("need 0 1 worth 0", 15);
        fault("need 0 1 worth 100", 15);
        fault("need 0 1 worth", 14);
        fault("need 0 1 cost 5", 9);
        fault("need 0 1worth5worth5", 14);
        fault("coin 0 1 in 3;need 0 1;promise 0 brings 0 1;bad", 44);
    }

    private static void townLimits() {
        due.at("4 town, limits");
        PromiseCoins x = new PromiseCoins();
        for (int i = 0; i < 9; i++) {
            x.promise(0, 0, 0, 1);
        }
        due.is("an 11th promise", Due.town(x, "back 1 brings 1 1 ; iffed 9"), -1 - 20);
        due.is("nothing came", x.count(0), 9);
        due.is("the 10th", Due.town(x, "back 1 brings 1 1"), 1);
        due.is("none more", Due.town(x, " tailed"), -2);
        for (int i = 0; i < 5; i++) {
            x.need(0, 1, 1);
        }
        due.is("a 7th need", Due.town(x, "need 0 1;need 9 9"), -1 - 9);
        due.is("no need came", x.count(1), 5);
        due.is("the 6th", Due.town(x, "need 0 1"), 1);
        due.is("no 7th", Due.town(x, "coin 0 1 in 6;need"), -1 - 14);
        due.is("coin stays", x.coin(0, 1, 2), 12);
        x.drop();
        due.is("room again", Due.town(x, "promise 0 brings 0 1"), 1);
    }

    private static void coin() {
        due.at("5 coin");
        PromiseCoins x = new PromiseCoins();
        due.is("first", x.coin(7, 0, 1), 12);
        due.is("then", x.coin(7, 6, 6), 1);
        due.is("then", x.coin(7, 1, 3), 66);
        due.is("all", x.count(5), 384);
        int[][] bad = {{-1, 1, 2}, {8, 1, 2}, {0, -1, 2}, {0, 3, 2}, {0, 0, 0}, {0, 0, 7}, {0, 1, -1},
            {Integer.MIN_VALUE, 1, 2}, {0, Integer.MAX_VALUE, 2}, {0, 1, Integer.MAX_VALUE}};
        for (int[] b : bad) {
            due.is("beyond", x.coin(b[0], b[1], b[2]), Due.BEYOND);
        }
        due.is("nothing changed", x.coin(0, 1, 2), 12);
        due.is("counted", x.status(0), bad.length);
    }

    private static void promise() {
        due.at("6 promise");
        PromiseCoins x = new PromiseCoins();
        int[][] bad = {{-1, 0, 0, 1}, {7, 0, 0, 1}, {0, -1, 0, 1}, {0, 8, 0, 1}, {0, 0, -1, 1}, {0, 0, 6, 1},
            {0, 0, 0, 0}, {0, 0, 0, 10}};
        for (int[] b : bad) {
            due.is("beyond", x.promise(b[0], b[1], b[2], b[3]), Due.BEYOND);
        }
        for (int i = 0; i < 10; i++) {
            due.is("new", x.promise(i % 7, i % 8, i % 6, 1 + i % 9), i);
        }
        promiseIs(x, 6, 6, 6, 6, 0, 7, 0);
        promiseIs(x, 9, 2, 1, 1, 3, 1, 0);
        due.is("full", x.promise(0, 0, 0, 1), Due.FULL);
        due.is("beyond ahead of full", x.promise(7, 0, 0, 1), Due.BEYOND);
        due.is("ten", x.count(0), 10);
    }

    private static void promiseOf() {
        due.at("7 promiseOf");
        PromiseCoins x = new PromiseCoins();
        due.is("none", x.promiseOf(0, 0), Due.BEYOND);
        x.promise(3, 5, 4, 8);
        promiseIs(x, 0, 3, 5, 5, 4, 8, 0);
        due.is("promise below", x.promiseOf(-1, 0), Due.BEYOND);
        due.is("promise above", x.promiseOf(1, 0), Due.BEYOND);
        due.is("what below", x.promiseOf(0, -1), Due.BEYOND);
        due.is("what above", x.promiseOf(0, 6), Due.BEYOND);
    }

    private static void change() {
        due.at("8 change");
        PromiseCoins x = new PromiseCoins();
        due.is("none", x.change(0, 0, 0), Due.BEYOND);
        x.promise(3, 5, 4, 8);
        int[] least = {0, 0, 0, 0, 1, 0};
        int[] greatest = {6, 7, 7, 5, 9, 49};
        int[] was = {3, 5, 5, 4, 8, 0};
        for (int what = 0; what < 6; what++) {
            due.is("below " + what, x.change(0, what, least[what] - 1), Due.BEYOND);
            due.is("above " + what, x.change(0, what, greatest[what] + 1), Due.BEYOND);
            due.is("stays " + what, x.promiseOf(0, what), was[what]);
            due.is("to least " + what, x.change(0, what, least[what]), was[what]);
            due.is("to greatest " + what, x.change(0, what, greatest[what]), least[what]);
            due.is("is greatest " + what, x.promiseOf(0, what), greatest[what]);
        }
        promiseIs(x, 0, greatest);
        due.is("what below", x.change(0, -1, 1), Due.BEYOND);
        due.is("what above", x.change(0, 6, 1), Due.BEYOND);
        due.is("promise above", x.change(1, 0, 1), Due.BEYOND);
        due.is("promise below", x.change(-1, 0, 1), Due.BEYOND);
    }

    private static void drop() {
        due.at("9 drop");
        PromiseCoins x = new PromiseCoins();
        due.is("none", x.drop(), Due.NONE);
        x.promise(0, 0, 0, 1);
        x.promise(6, 1, 2, 3);
        x.change(1, 5, 30);
        x.hold(0, 1);
        x.hold(1, 0);
        x.hold(3, 1);
        x.hold(9, 1);
        due.is("one left", x.drop(), 1);
        due.is("spots", x.count(6), 1);
        due.is("spot of the dropped", x.as(3, 0), Due.MISSING);
        due.is("other spot of it", x.as(9, 0), Due.MISSING);
        due.is("first spot of it", x.as(0, 0), Due.MISSING);
        due.is("spot of the other", x.as(1, 0), 0);
        due.is("gone", x.promiseOf(1, 0), Due.BEYOND);
        due.is("a new one", x.promise(0, 3, 3, 3), 1);
        promiseIs(x, 1, 0, 3, 3, 3, 3, 0);
        due.is("no spot holds the new one", x.as(3, 0), Due.MISSING);
        x.drop();
        due.is("the last", x.drop(), 0);
        due.is("none again", x.drop(), Due.NONE);
    }

    private static void need() {
        due.at("10 need");
        PromiseCoins x = new PromiseCoins();
        int[][] bad = {{-1, 1, 1}, {6, 1, 1}, {0, 0, 1}, {0, 41, 1}, {0, 1, 0}, {0, 1, 100}};
        for (int[] b : bad) {
            due.is("beyond", x.need(b[0], b[1], b[2]), Due.BEYOND);
        }
        due.is("first", x.need(5, 40, 99), 0);
        for (int i = 1; i < 6; i++) {
            due.is("next", x.need(0, 1, i), i);
        }
        due.is("full", x.need(0, 1, 1), Due.FULL);
        due.is("beyond ahead of full", x.need(0, 0, 1), Due.BEYOND);
        due.is("six", x.count(1), 6);
    }

    private static void needOf() {
        due.at("11 needOf");
        PromiseCoins x = new PromiseCoins();
        due.is("none", x.needOf(0, 0), Due.BEYOND);
        x.need(1, 2, 3);
        x.need(5, 40, 99);
        needIs(x, 0, 1, 2, 3);
        needIs(x, 1, 5, 40, 99);
        due.is("need above", x.needOf(2, 0), Due.BEYOND);
        due.is("need below", x.needOf(-1, 0), Due.BEYOND);
        due.is("what above", x.needOf(0, 3), Due.BEYOND);
        due.is("what below", x.needOf(0, -1), Due.BEYOND);
    }
}
