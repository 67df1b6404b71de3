/** Promises 37 to 43: each sentence that names a boundary case. */
public final class SheetsEdgesTest {
    private static final Due due = new Due();

    public static void main(String[] args) {
        holdInEachSpot();
        holdNothing();
        holdOneInManySpots();
        asOfEachKind();
        asWhatItIsNow();
        sheetOfEachSize();
        sheetIsAllNought();
        sheetIsMissing();
        sheetsAreApart();
        writeLowestBits();
        writeOfEachNumber();
        writeToAnEmptyOne();
        copyOfAllAndOfNone();
        copyOfNothingFromTheEnd();
        copyOntoItself();
        copyOfEachWidth();
        loadOfNoneAndOfAll();
        loadEndsAtTheFirst();
        loadOfNegativeNumbers();
        loadChangesCostsAlone();
        judgeOfAnEmptyOne();
        judgeOfOneNumber();
        judgeOfTheLargest();
        judgeTellsTheFirst();
        judgeOfThrows();
        judgeOfSets();
        judgeByWidth();
        due.end();
    }

    private static PromiseCoins many(int promises, int kind) {
        PromiseCoins x = new PromiseCoins();
        for (int i = 0; i < promises; i++) {
            x.promise(kind, i % 8, 0, 1);
        }
        return x;
    }

    private static void holdInEachSpot() {
        due.at("SPOTS 0 to 9 hold a PROMISE or nothing (at first)");
        PromiseCoins x = many(10, 0);
        due.is("nothing at first", x.count(6), 0);
        for (int spot = 0; spot < 10; spot++) {
            due.is("nothing yet", x.as(spot, 0), Due.MISSING);
            due.is("hold", x.hold(spot, 9 - spot), 1);
            due.is("so many", x.count(6), spot + 1);
        }
        for (int spot = 0; spot < 10; spot++) {
            due.is("what it holds", x.as(spot, 0), 9 - spot);
        }
        for (int bad : new int[] {-1, 10, 32, Integer.MIN_VALUE, Integer.MAX_VALUE}) {
            due.is("no SPOT", x.hold(bad, 0), Due.BEYOND);
            due.is("no SPOT", x.hold(bad, -1), Due.BEYOND);
            due.is("no SPOT", x.as(bad, 0), Due.BEYOND);
        }
    }

    private static void holdNothing() {
        due.at("Promise 37: 'A SPOT holds a PROMISE, or nothing (-1): 1.'");
        PromiseCoins x = new PromiseCoins();
        for (int spot = 0; spot < 10; spot++) {
            due.is("nothing for nothing", x.hold(spot, -1), 1);
        }
        due.is("none holds", x.count(6), 0);
        x.promise(0, 0, 0, 1);
        due.is("number 0 is something", x.hold(9, 0), 1);
        due.is("one", x.count(6), 1);
        due.is("it again", x.hold(9, 0), 1);
        due.is("one", x.count(6), 1);
        due.is("nothing", x.hold(9, -1), 1);
        due.is("none", x.count(6), 0);
        due.is("-2 is not nothing", x.hold(9, -2), Due.BEYOND);
        due.is("number 1 isn't there", x.hold(9, 1), Due.BEYOND);
        due.is("none", x.count(6), 0);
    }

    private static void holdOneInManySpots() {
        due.at("Promise 37: one PROMISE in all SPOTS, and another one in place of it");
        PromiseCoins x = many(10, 0);
        for (int spot = 0; spot < 10; spot++) {
            x.hold(spot, 9);
        }
        due.is("all ten", x.count(6), 10);
        due.is("another one", x.hold(4, 0), 1);
        due.is("all ten", x.count(6), 10);
        due.is("another one", x.as(4, 0), 0);
        due.is("the others hold it still", x.as(5, 0), 9);
    }

    private static void asOfEachKind() {
        due.at("Promise 38: 'What a SPOT holds as one of a kind (0 to 6) .. KIND: it isn't of that kind, nor of one under it'");
        int[] under = {0b0000001, 0b0000011, 0b0000101, 0b0001011, 0b0010001, 0b0100101, 0b1001011};
        for (int kind = 0; kind < 7; kind++) {
            PromiseCoins x = many(10, kind);
            x.hold(0, 0);
            x.hold(9, 9);
            for (int top = 0; top < 7; top++) {
                boolean is = (under[kind] >> top & 1) == 1;
                due.is("kind " + kind + " as " + top, x.as(0, top), is ? 0 : Due.KIND);
                due.is("the tenth", x.as(9, top), is ? 9 : Due.KIND);
                due.is("nothing", x.as(5, top), Due.MISSING);
            }
            for (int bad : new int[] {-1, 7, 32, Integer.MIN_VALUE, Integer.MAX_VALUE}) {
                due.is("no kind", x.as(0, bad), Due.BEYOND);
                due.is("no kind, ahead of MISSING", x.as(5, bad), Due.BEYOND);
            }
        }
    }

    private static void asWhatItIsNow() {
        due.at("Promise 38: of the kind that the PROMISE is now");
        PromiseCoins x = many(1, 6);
        x.hold(0, 0);
        due.is("chained", x.as(0, 6), 0);
        x.change(0, 0, 3);
        due.is("back", x.as(0, 6), Due.KIND);
        due.is("back", x.as(0, 3), 0);
        x.change(0, 0, 0);
        due.is("promise", x.as(0, 3), Due.KIND);
        due.is("promise", x.as(0, 0), 0);
    }

    private static void sheetOfEachSize() {
        due.at("Promise 39: 'n numbers .. : n', 0 to 40; 'SIZE: n is below 0', 'BEYOND: n is above 40'");
        PromiseCoins x = new PromiseCoins();
        for (int bits : new int[] {8, 16, 32}) {
            for (int n : new int[] {0, 1, 39, 40}) {
                due.is("n " + n, x.sheet(2, bits, n), n);
                due.is("the last", x.write(2, n - 1, 1), n == 0 ? Due.BEYOND : 1);
                due.is("none behind it", x.write(2, n, 1), Due.BEYOND);
                due.is("all of them", x.copy(2, 0, 2, 0, n), n);
                due.is("not one more", x.copy(2, 0, 2, 0, n + 1), Due.BEYOND);
            }
            due.is("-1", x.sheet(2, bits, -1), Due.SIZE);
            due.is("least", x.sheet(2, bits, Integer.MIN_VALUE), Due.SIZE);
            due.is("41", x.sheet(2, bits, 41), Due.BEYOND);
            due.is("greatest", x.sheet(2, bits, Integer.MAX_VALUE), Due.BEYOND);
            due.is("40 still", x.write(2, 39, 1), 1);
        }
    }

    private static void sheetIsAllNought() {
        due.at("Promise 39: 'n numbers, all 0', also where others were");
        PromiseCoins x = many(10, 0);
        for (int bits : new int[] {8, 16, 32}) {
            x.sheet(1, bits, 40);
            for (int i = 0; i < 40; i++) {
                x.write(1, i, 7);
            }
            due.is("fewer", x.sheet(1, bits, 5), 5);
            due.is("all again", x.sheet(1, bits, 40), 40);
            for (int from = 0; from < 40; from += 10) {
                for (int i = 0; i < 10; i++) {
                    x.change(i, 5, 9);
                }
                due.is("ten come", x.load(1), 10);
                for (int i = 0; i < 10; i++) {
                    due.is("nought", x.promiseOf(i, 5), 0);
                }
                x.copy(1, 10, 1, 0, 30);
            }
            x = many(10, 0);
        }
    }

    private static void sheetIsMissing() {
        due.at("Promise 39: 'bits 0: it is MISSING: n (0 if it is MISSING)'");
        PromiseCoins x = new PromiseCoins();
        for (int n : new int[] {0, 1, 40}) {
            due.is("made", x.sheet(3, 8, 40), 40);
            due.is("it is there", x.judge(3), 0);
            due.is("bits 0, n " + n, x.sheet(3, 0, n), 0);
            due.is("write", x.write(3, 0, 0), Due.MISSING);
            due.is("copy", x.copy(3, 0, 3, 0, 0), Due.MISSING);
            due.is("load", x.load(3), Due.MISSING);
            due.is("judge", x.judge(3), Due.MISSING);
            due.is("once more", x.sheet(3, 0, n), 0);
        }
        due.is("bits 0, n -1", x.sheet(3, 0, -1), Due.SIZE);
        due.is("bits 0, n 41", x.sheet(3, 0, 41), Due.BEYOND);
        due.is("of none but that", x.sheet(2, 8, 0), 0);
        due.is("an empty one isn't MISSING", x.load(2), 0);
    }

    private static void sheetsAreApart() {
        due.at("SHEETS 0 to 3: each is one of its own");
        PromiseCoins x = many(1, 0);
        for (int s = 0; s < 4; s++) {
            due.is("sheet " + s, x.sheet(s, 8, s + 1), s + 1);
            due.is("write", x.write(s, 0, 10 + s), 1);
        }
        for (int s = 0; s < 4; s++) {
            due.is("load", x.load(s), 1);
            due.is("its own", x.promiseOf(0, 5), 10 + s);
            due.is("its size", x.write(s, s + 1, 0), Due.BEYOND);
        }
        x.sheet(2, 0, 0);
        due.is("1 is there", x.load(1), 1);
        due.is("2 is not", x.load(2), Due.MISSING);
        due.is("3 is there", x.load(3), 1);
    }

    /** Eight promises by eight coins are kept just as the throw is told: so a set stands behind a THROW. */
    private static boolean isNumber(PromiseCoins x, int s, int v) {
        x.write(s, 1, v);
        x.change(0, 5, 49);
        boolean comes = x.load(s) >= 1;
        if (v < 0 || v > 255) {
            return !comes && x.judge(s) == 1;
        }
        return x.judge(s) == 0 && comes == (v <= 49) && (!comes || x.promiseOf(0, 5) == v);
    }

    private static void writeLowestBits() {
        due.at("Promise 40: 'Number i of a sheet becomes v (its lowest bits): 1'; 'of 8 bits 255 is -1'");
        int[][] cases = {
            {8, 127, 127}, {8, 128, -128}, {8, 255, -1}, {8, 256, 0}, {8, 257, 1}, {8, -1, -1}, {8, -128, -128},
            {8, -129, 127}, {8, -256, 0}, {8, -255, 1}, {8, Integer.MIN_VALUE, 0}, {8, Integer.MAX_VALUE, -1},
            {8, 49, 49}, {8, 256 + 49, 49}, {8, 50, 50}, {8, 256 + 50, 50}, {8, 0x12340000 + 7, 7},
            {16, 255, 255}, {16, 256, 256}, {16, 32767, 32767}, {16, 32768, -32768}, {16, 65535, -1}, {16, 65536, 0},
            {16, 65536 + 49, 49}, {16, -65536, 0}, {16, -65535, 1}, {16, Integer.MIN_VALUE, 0},
            {16, Integer.MIN_VALUE + 5, 5}, {16, Integer.MAX_VALUE, -1}, {16, 65536 + 255, 255},
            {32, 255, 255}, {32, 256, 256}, {32, 65536, 65536}, {32, 65536 + 7, 65536 + 7}, {32, 1 << 24, 1 << 24},
            {32, Integer.MIN_VALUE, Integer.MIN_VALUE}, {32, Integer.MIN_VALUE + 5, Integer.MIN_VALUE + 5},
            {32, Integer.MAX_VALUE, Integer.MAX_VALUE}, {32, -1, -1}, {32, 49, 49}, {32, 50, 50}};
        for (int[] c : cases) {
            PromiseCoins x = many(8, 0);
            x.sheet(0, c[0], 2);
            due.is("write", x.write(0, 0, c[1]), 1);
            due.holds("of " + c[0] + " bits " + c[1] + " is " + c[2], isNumber(x, 0, c[2]));
        }
    }

    private static void writeOfEachNumber() {
        due.at("Promise 40: 'Number i of a sheet', 0 to the last, and no other");
        PromiseCoins x = many(10, 0);
        x.sheet(0, 8, 10);
        for (int i = 0; i < 10; i++) {
            due.is("number " + i, x.write(0, i, 30 + i), 1);
        }
        due.is("ten", x.load(0), 10);
        for (int i = 0; i < 10; i++) {
            due.is("each its own", x.promiseOf(i, 5), 30 + i);
        }
        for (int bad : new int[] {-1, 10, 39, 40, Integer.MIN_VALUE, Integer.MAX_VALUE}) {
            due.is("no number " + bad, x.write(0, bad, 1), Due.BEYOND);
        }
    }

    private static void writeToAnEmptyOne() {
        due.at("Promise 40: 'BEYOND: no such number', of an empty sheet, also where numbers were");
        PromiseCoins x = many(1, 0);
        for (int bits : new int[] {8, 16, 32}) {
            x.sheet(0, bits, 40);
            x.sheet(0, bits, 0);
            for (int i : new int[] {-1, 0, 1, 39, 40}) {
                due.is("number " + i, x.write(0, i, 5), Due.BEYOND);
            }
            due.is("none comes", x.load(0), 0);
        }
    }

    private static void copyOfAllAndOfNone() {
        due.at("Promise 41: 'n numbers of a sheet from one on come to another one from one on: n', 0 to 40");
        PromiseCoins x = many(10, 0);
        x.sheet(0, 8, 40);
        x.sheet(1, 8, 40);
        for (int i = 0; i < 40; i++) {
            x.write(0, i, i);
        }
        due.is("none", x.copy(0, 0, 1, 0, 0), 0);
        due.is("none has come", x.load(1), 10);
        due.is("nought", x.promiseOf(9, 5), 0);
        due.is("the last to the first", x.copy(0, 39, 1, 0, 1), 1);
        x.load(1);
        due.is("39", x.promiseOf(0, 5), 39);
        due.is("nought", x.promiseOf(1, 5), 0);
        due.is("the first to the last", x.copy(0, 0, 1, 39, 1), 1);
        due.is("all", x.copy(0, 0, 1, 0, 40), 40);
        due.is("not 41", x.copy(0, 0, 1, 0, 41), Due.BEYOND);
        due.is("the last ten to the first", x.copy(1, 30, 1, 0, 10), 10);
        x.load(1);
        due.is("30", x.promiseOf(0, 5), 30);
        due.is("39", x.promiseOf(9, 5), 39);
    }

    private static void copyOfNothingFromTheEnd() {
        due.at("Promise 41: 'BEYOND: one has not so many': no number, from just behind the last one on");
        PromiseCoins x = new PromiseCoins();
        x.sheet(0, 8, 3);
        x.sheet(1, 8, 0);
        due.is("just at both ends", x.copy(0, 3, 1, 0, 0), 0);
        due.is("from an empty one", x.copy(1, 0, 0, 3, 0), 0);
        due.is("an empty one on itself", x.copy(1, 0, 1, 0, 0), 0);
        due.is("one behind the end of the first", x.copy(0, 4, 1, 0, 0), Due.BEYOND);
        due.is("one behind the end of the other", x.copy(1, 0, 0, 4, 0), Due.BEYOND);
        due.is("one behind the end of an empty one", x.copy(1, 1, 0, 0, 0), Due.BEYOND);
        due.is("one number to an empty one", x.copy(0, 0, 1, 0, 1), Due.BEYOND);
        due.is("one number of an empty one", x.copy(1, 0, 0, 0, 1), Due.BEYOND);
        due.is("n -1 at the end", x.copy(0, 3, 1, 0, -1), Due.BEYOND);
    }

    private static void costs(PromiseCoins x, int s, int... want) {
        due.is("so many come", x.load(s), want.length);
        for (int i = 0; i < want.length; i++) {
            due.is("number " + i, x.promiseOf(i, 5), want[i]);
        }
    }

    private static void copyOntoItself() {
        due.at("Promise 41: '(as they all were)': a sheet onto itself, to the right, to the left, in place");
        int[][] want = {{1, 1, 2, 3, 4}, {2, 3, 4, 5, 5}, {1, 2, 3, 4, 5}, {1, 2, 3, 1, 2}, {4, 5, 3, 4, 5}};
        int[][] ways = {{0, 1, 4}, {1, 0, 4}, {0, 0, 5}, {0, 3, 2}, {3, 0, 2}};
        for (int bits : new int[] {8, 16, 32}) {
            for (int w = 0; w < 5; w++) {
                PromiseCoins x = many(10, 0);
                x.sheet(3, bits, 5);
                for (int i = 0; i < 5; i++) {
                    x.write(3, i, 1 + i);
                }
                due.is("way " + w, x.copy(3, ways[w][0], 3, ways[w][1], ways[w][2]), ways[w][2]);
                costs(x, 3, want[w]);
            }
        }
    }

    private static void copyOfEachWidth() {
        due.at("Promise 41: 'KIND: they are not of as many bits'");
        int[] widths = {8, 16, 32};
        for (int one : widths) {
            for (int other : widths) {
                PromiseCoins x = many(10, 0);
                x.sheet(0, one, 2);
                x.sheet(3, other, 2);
                x.write(0, 0, 41);
                x.write(0, 1, 42);
                due.is(one + " to " + other, x.copy(0, 0, 3, 0, 2), one == other ? 2 : Due.KIND);
                costs(x, 3, one == other ? new int[] {41, 42} : new int[] {0, 0});
                costs(x, 0, 41, 42);
            }
        }
    }

    private static void loadOfNoneAndOfAll() {
        due.at("Promise 42: 'how many came', of an empty sheet, of no PROMISES, of as many and of more");
        PromiseCoins x = new PromiseCoins();
        x.sheet(0, 8, 40);
        due.is("no PROMISES", x.load(0), 0);
        x.sheet(1, 8, 0);
        due.is("neither", x.load(1), 0);
        for (int i = 0; i < 10; i++) {
            x.promise(0, 0, 0, 1);
            x.sheet(2, 8, i + 1);
            x.write(2, i, 20 + i);
            due.is("as many", x.load(2), i + 1);
            due.is("the last", x.promiseOf(i, 5), 20 + i);
            due.is("more numbers", x.load(0), i + 1);
            due.is("the last", x.promiseOf(i, 5), 0);
            x.change(i, 5, 33);
            x.sheet(2, 8, i);
            due.is("fewer numbers", x.load(2), i);
            due.is("the last stays", x.promiseOf(i, 5), 33);
            due.is("an empty sheet", x.load(1), 0);
        }
        due.is("no finding", x.status(-1), 0);
    }

    private static void loadEndsAtTheFirst() {
        due.at("Promise 42: 'It ends at the first that isn't 0 to 49, or for which there is no PROMISE.'");
        for (int bad : new int[] {50, 51, 127, -1, -128}) {
            for (int at = 0; at < 10; at++) {
                PromiseCoins x = many(10, 0);
                for (int i = 0; i < 10; i++) {
                    x.change(i, 5, 3);
                }
                x.sheet(0, 8, 10);
                for (int i = 0; i < 10; i++) {
                    x.write(0, i, i % 2 == 0 ? 0 : 49);
                }
                x.write(0, at, bad);
                due.is(bad + " at " + at, x.load(0), at);
                for (int i = 0; i < 10; i++) {
                    due.is("cost " + i, x.promiseOf(i, 5), i >= at ? 3 : i % 2 == 0 ? 0 : 49);
                }
            }
        }
    }

    private static void loadOfNegativeNumbers() {
        due.at("SHEETS: 'told with their sign': 8, 16 and 32 bits that would be 0 to 49 if cut");
        int[][] cases = {{16, 256}, {16, 256 + 7}, {16, -256}, {32, 65536}, {32, 65536 + 7}, {32, 1 << 31}, {32, 256},
            {32, Integer.MIN_VALUE + 7}, {32, Integer.MAX_VALUE}, {8, -100}, {16, -32768}};
        for (int[] c : cases) {
            PromiseCoins x = many(1, 0);
            x.sheet(0, c[0], 1);
            x.write(0, 0, c[1]);
            due.is(c[1] + " of " + c[0] + " bits", x.load(0), 0);
            due.is("its cost stays", x.promiseOf(0, 5), 0);
        }
    }

    private static void loadChangesCostsAlone() {
        due.at("Promise 42: numbers 'become COSTS', and nothing else changes");
        PromiseCoins x = Towns.made(10, 6);
        PromiseCoins y = Towns.made(10, 6);
        due.is("three", x.load(1), 3);
        y.change(0, 5, 7);
        y.change(1, 5, 0);
        y.change(2, 5, 9);
        Twins.same(due, "as by change()", x, y);
        PromiseCoins z = Towns.made(10, 6);
        due.is("an empty one", z.load(2), 0);
        Twins.same(due, "nothing", z, Towns.made(10, 6));
    }

    private static void judgeOfAnEmptyOne() {
        due.at("Promise 43: '0 if all are right', of no numbers");
        for (int bits : new int[] {8, 16, 32}) {
            PromiseCoins x = new PromiseCoins();
            x.sheet(0, bits, 0);
            due.is("no PROMISES", x.judge(0), 0);
            x.promise(5, 0, 0, 1);
            due.is("one", x.judge(0), 0);
        }
    }

    private static void judgeOfOneNumber() {
        due.at("Promise 43: '(a THROW without a set: 1 and how many numbers there are)', of one number to 39");
        PromiseCoins x = new PromiseCoins();
        for (int n = 1; n < 40; n += 2) {
            x.sheet(0, 16, n);
            due.is(n + " numbers", x.judge(0), 1 + n);
            x.write(0, n - 1, 255);
            due.is("another THROW without a set", x.judge(0), 1 + n);
            x.write(0, n - 1, 256);
            due.is("the last is no THROW: its own place", x.judge(0), n);
            x.write(0, n - 1, -1);
            due.is("the last is no THROW: its own place", x.judge(0), n);
        }
        x.sheet(0, 16, 3);
        x.write(0, 1, 1);
        due.is("a wrong set ahead of it", x.judge(0), 2);
        x.write(0, 0, 256);
        due.is("a wrong THROW ahead of that", x.judge(0), 1);
    }

    private static void judgeOfTheLargest() {
        due.at("Promise 43: forty numbers, right, and wrong at the first and at the last");
        PromiseCoins x = many(8, 0);
        x.sheet(0, 16, 40);
        for (int i = 0; i < 40; i += 2) {
            x.write(0, i, 255 - i);
            x.write(0, i + 1, 255 - i);
        }
        due.is("right", x.judge(0), 0);
        x.write(0, 39, 0);
        due.is("the last", x.judge(0), 40);
        x.write(0, 38, 256);
        due.is("the last but one", x.judge(0), 39);
        x.write(0, 1, 254);
        due.is("the second", x.judge(0), 2);
        x.write(0, 0, -1);
        due.is("the first", x.judge(0), 1);
        x.sheet(0, 16, 40);
        due.is("all nought", x.judge(0), 0);
        x.change(7, 0, 5);
        due.is("a tailed one is kept in THROW 0", x.judge(0), 2);
    }

    private static void judgeTellsTheFirst() {
        due.at("Promise 43: '1 and the place of the first that isn't'");
        for (int at = 0; at < 6; at++) {
            PromiseCoins x = many(2, 0);
            x.sheet(0, 8, 6);
            for (int i = 0; i < 6; i++) {
                x.write(0, i, 1 + i / 2);
            }
            due.is("right", x.judge(0), 0);
            x.write(0, at, -1);
            due.is("wrong at " + at, x.judge(0), 1 + at);
            for (int i = at; i < 6; i++) {
                x.write(0, i, -1);
            }
            due.is("wrong from " + at + " on", x.judge(0), 1 + at);
        }
    }

    private static void judgeOfThrows() {
        due.at("Promise 43: 'a THROW (0 to 255)'");
        int[] right = {0, 1, 127, 128, 254, 255};
        int[] wrong = {-1, 256, 257, 511, 512, -256, 65536, Integer.MIN_VALUE, Integer.MAX_VALUE, Integer.MIN_VALUE + 1};
        PromiseCoins x = many(8, 0);
        x.sheet(0, 32, 2);
        for (int t : right) {
            x.write(0, 0, t);
            x.write(0, 1, t);
            due.is("THROW " + t, x.judge(0), 0);
        }
        for (int t : wrong) {
            x.write(0, 0, t);
            x.write(0, 1, t & 255);
            due.is("no THROW " + t, x.judge(0), 1);
        }
    }

    private static void judgeOfSets() {
        due.at("Promise 43: 'the set of PROMISES that are KEPT in it', of none and of ten, and nothing but it");
        PromiseCoins x = new PromiseCoins();
        x.sheet(0, 32, 2);
        x.write(0, 0, 255);
        due.is("no PROMISES: the empty set", x.judge(0), 0);
        x.write(0, 1, 1);
        due.is("another set", x.judge(0), 2);
        PromiseCoins y = many(10, 6);
        y.sheet(0, 32, 2);
        y.write(0, 0, 255);
        for (int set : new int[] {1022, 1024, 2047, -1, 0, 1023 + 65536, 511, Integer.MIN_VALUE + 1023}) {
            y.write(0, 1, set);
            due.is("set " + set, y.judge(0), 2);
        }
        y.write(0, 1, 1023);
        due.is("all ten", y.judge(0), 0);
        y.write(0, 0, 254);
        due.is("another THROW", y.judge(0), 2);
        y.write(0, 1, 0);
        due.is("none is kept in it", y.judge(0), 0);
        y.lay(77);
        due.is("THE LATEST THROW has nothing to do with it", y.judge(0), 0);
        y.drop();
        y.write(0, 0, 255);
        y.write(0, 1, 1023);
        due.is("one is no more", y.judge(0), 2);
    }

    private static void judgeByWidth() {
        due.at("Promise 43 and SHEETS: 'told with their sign: of 8 bits 255 is -1'");
        PromiseCoins x = many(8, 0);
        x.sheet(0, 8, 2);
        x.write(0, 0, 128);
        x.write(0, 1, 128);
        due.is("128 of 8 bits is no THROW", x.judge(0), 1);
        x.write(0, 0, 127);
        due.is("127 is one, 128 isn't its set", x.judge(0), 2);
        x.write(0, 1, 127);
        due.is("127", x.judge(0), 0);
        x.write(0, 0, 256);
        x.write(0, 1, 256);
        due.is("256 of 8 bits is 0", x.judge(0), 0);
        x.sheet(0, 16, 2);
        x.write(0, 0, 128);
        x.write(0, 1, 128);
        due.is("128 of 16 bits", x.judge(0), 0);
        x.write(0, 0, 65535);
        due.is("65535 of 16 bits is -1", x.judge(0), 1);
        x.write(0, 0, 65536 + 128);
        due.is("65536 and 128 of 16 bits is 128", x.judge(0), 0);
    }
}
