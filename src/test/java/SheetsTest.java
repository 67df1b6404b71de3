/** Promises 37 to 48: spots, sheets, images, counts and status. */
public final class SheetsTest {
    private static final Due due = new Due();

    public static void main(String[] args) {
        hold();
        as();
        sheet();
        write();
        copy();
        copyOnItself();
        load();
        judge();
        image();
        undo();
        tear();
        count();
        status();
        findingsChangeNothing();
        due.end();
    }

    private static void hold() {
        due.at("37 hold");
        PromiseCoins x = new PromiseCoins();
        due.is("no such promise", x.hold(0, 0), Due.BEYOND);
        due.is("nothing", x.hold(0, -1), 1);
        x.promise(0, 0, 0, 1);
        x.promise(0, 0, 0, 1);
        due.is("first spot", x.hold(0, 1), 1);
        due.is("last spot", x.hold(9, 1), 1);
        due.is("held", x.count(6), 2);
        due.is("nothing again", x.hold(0, -1), 1);
        due.is("held", x.count(6), 1);
        due.is("spot below", x.hold(-1, 0), Due.BEYOND);
        due.is("spot above", x.hold(10, 0), Due.BEYOND);
        due.is("promise below", x.hold(9, -2), Due.BEYOND);
        due.is("promise above", x.hold(9, 2), Due.BEYOND);
        due.is("it stays", x.as(9, 0), 1);
    }

    private static void as() {
        due.at("38 as");
        PromiseCoins x = new PromiseCoins();
        String[] under = {"0", "01", "02", "013", "04", "025", "0136"};
        for (int kind = 0; kind < 7; kind++) {
            x.promise(kind, 0, 0, 1);
            x.hold(kind, kind);
        }
        int wrong = 0;
        for (int kind = 0; kind < 7; kind++) {
            for (int top = 0; top < 7; top++) {
                boolean is = under[kind].indexOf('0' + top) >= 0;
                wrong += is ? 0 : 1;
                due.is("kind " + kind + " as " + top, x.as(kind, top), is ? kind : Due.KIND);
            }
        }
        due.is("counted", x.status(2), wrong);
        due.is("missing", x.as(9, 6), Due.MISSING);
        due.is("spot below", x.as(-1, 0), Due.BEYOND);
        due.is("spot above", x.as(10, 0), Due.BEYOND);
        due.is("kind below", x.as(9, -1), Due.BEYOND);
        due.is("kind above", x.as(9, 7), Due.BEYOND);
        x.change(0, 0, 6);
        due.is("the kind that it is now", x.as(0, 3), 0);
    }

    private static void sheet() {
        due.at("39 sheet");
        PromiseCoins x = new PromiseCoins();
        due.is("8", x.sheet(0, 8, 40), 40);
        due.is("16", x.sheet(1, 16, 1), 1);
        due.is("32", x.sheet(2, 32, 0), 0);
        due.is("missing", x.sheet(3, 0, 7), 0);
        due.is("it is missing", x.judge(3), Due.MISSING);
        due.is("empty is not missing", x.judge(2), 0);
        due.is("sheet below", x.sheet(-1, 8, 1), Due.BEYOND);
        due.is("sheet above", x.sheet(4, 8, 1), Due.BEYOND);
        due.is("bits 9", x.sheet(0, 9, 1), Due.BEYOND);
        due.is("bits below", x.sheet(0, -8, 1), Due.BEYOND);
        due.is("bits 64", x.sheet(0, 64, -1), Due.BEYOND);
        due.is("n below", x.sheet(0, 8, -1), Due.SIZE);
        due.is("n below, bits 0", x.sheet(0, 0, -1), Due.SIZE);
        due.is("n above", x.sheet(0, 8, 41), Due.BEYOND);
        due.is("n above, bits 0", x.sheet(0, 0, 41), Due.BEYOND);
        due.is("it stays", x.write(0, 39, 9), 1);
        x.promise(0, 0, 0, 1);
        x.write(1, 0, 33);
        due.is("made anew", x.sheet(1, 16, 2), 2);
        due.is("all are 0", x.load(1), 1);
        due.is("cost", x.promiseOf(0, 5), 0);
        due.is("torn", x.sheet(0, 0, 0), 0);
        due.is("missing then", x.write(0, 0, 0), Due.MISSING);
    }

    private static void write() {
        due.at("40 write");
        PromiseCoins x = new PromiseCoins();
        due.is("sheet below", x.write(-1, 0, 0), Due.BEYOND);
        due.is("sheet above", x.write(4, 0, 0), Due.BEYOND);
        due.is("missing", x.write(0, -1, 0), Due.MISSING);
        x.sheet(0, 8, 2);
        due.is("number below", x.write(0, -1, 0), Due.BEYOND);
        due.is("number above", x.write(0, 2, 0), Due.BEYOND);
        x.promise(0, 0, 0, 1);
        due.is("lowest 8 bits", x.write(0, 0, 256 + 7), 1);
        due.is("comes", x.load(0), 1);
        due.is("7", x.promiseOf(0, 5), 7);
        x.write(0, 0, 255);
        due.is("of 8 bits 255 is -1", x.load(0), 0);
        x.sheet(1, 16, 1);
        x.write(1, 0, 65536 * 5 + 8);
        due.is("lowest 16 bits", x.load(1), 1);
        due.is("8", x.promiseOf(0, 5), 8);
        x.write(1, 0, 65535);
        due.is("of 16 bits 65535 is -1", x.load(1), 0);
        x.sheet(2, 32, 1);
        x.write(2, 0, 65536 + 9);
        due.is("32 bits are kept whole", x.load(2), 0);
        x.write(2, 0, 9);
        due.is("comes", x.load(2), 1);
        due.is("9", x.promiseOf(0, 5), 9);
        x.sheet(3, 32, 0);
        due.is("an empty sheet", x.write(3, 0, 0), Due.BEYOND);
    }

    private static void costsAre(PromiseCoins x, int s, int... want) {
        for (int i = 0; i < 10; i++) {
            x.change(i, 5, 0);
        }
        due.is("come", x.load(s), want.length);
        for (int i = 0; i < want.length; i++) {
            due.is("cost " + i, x.promiseOf(i, 5), want[i]);
        }
    }

    private static PromiseCoins ten() {
        PromiseCoins x = new PromiseCoins();
        for (int i = 0; i < 10; i++) {
            x.promise(0, i % 8, 0, 1);
        }
        return x;
    }

    private static void copy() {
        due.at("41 copy");
        PromiseCoins x = ten();
        x.sheet(0, 16, 6);
        x.sheet(1, 16, 4);
        x.sheet(2, 8, 6);
        for (int i = 0; i < 6; i++) {
            x.write(0, i, 11 + i);
        }
        due.is("three", x.copy(0, 2, 1, 1, 3), 3);
        costsAre(x, 1, 0, 13, 14, 15);
        due.is("none at the end", x.copy(0, 6, 1, 4, 0), 0);
        due.is("sheet s", x.copy(4, 0, 3, 0, 0), Due.BEYOND);
        due.is("sheet s", x.copy(-1, 0, 3, 0, 0), Due.BEYOND);
        due.is("sheet t ahead of missing", x.copy(3, 0, 4, 0, 0), Due.BEYOND);
        due.is("sheet t", x.copy(0, 0, -1, 0, 0), Due.BEYOND);
        due.is("s is missing", x.copy(3, -1, 0, 0, 0), Due.MISSING);
        due.is("t is missing", x.copy(0, -1, 3, 0, 0), Due.MISSING);
        due.is("other bits", x.copy(0, -1, 2, 0, 0), Due.KIND);
        int[][] bad = {{-1, 0, 1}, {0, -1, 1}, {0, 0, -1}, {0, 0, 5}, {4, 0, 3}, {0, 2, 3}, {7, 0, 0}, {0, 5, 0},
            {Integer.MAX_VALUE, 0, 1}, {1, 0, Integer.MAX_VALUE}, {0, Integer.MAX_VALUE, Integer.MAX_VALUE},
            {Integer.MIN_VALUE, 0, Integer.MIN_VALUE}};
        for (int[] b : bad) {
            due.is("beyond", x.copy(0, b[0], 1, b[1], b[2]), Due.BEYOND);
        }
        costsAre(x, 1, 0, 13, 14, 15);
    }

    private static void copyOnItself() {
        due.at("41 copy, on itself");
        PromiseCoins x = ten();
        x.sheet(0, 8, 6);
        for (int i = 0; i < 6; i++) {
            x.write(0, i, 1 + i);
        }
        due.is("to the right", x.copy(0, 0, 0, 1, 5), 5);
        costsAre(x, 0, 1, 1, 2, 3, 4, 5);
        due.is("to the left", x.copy(0, 2, 0, 0, 4), 4);
        costsAre(x, 0, 2, 3, 4, 5, 4, 5);
    }

    private static void load() {
        due.at("42 load");
        PromiseCoins x = new PromiseCoins();
        due.is("sheet below", x.load(-1), Due.BEYOND);
        due.is("sheet above", x.load(4), Due.BEYOND);
        due.is("missing", x.load(0), Due.MISSING);
        x.sheet(0, 32, 3);
        due.is("no promises", x.load(0), 0);
        x.promise(0, 0, 0, 1);
        x.promise(0, 0, 0, 1);
        x.write(0, 0, 49);
        x.write(0, 1, 50);
        due.is("50 is too much", x.load(0), 1);
        due.is("first came", x.promiseOf(0, 5), 49);
        due.is("second stays", x.promiseOf(1, 5), 0);
        x.write(0, 1, 48);
        due.is("no third promise", x.load(0), 2);
        due.is("second came", x.promiseOf(1, 5), 48);
        x.write(0, 0, -1);
        due.is("below 0", x.load(0), 0);
        due.is("it stays", x.promiseOf(0, 5), 49);
        x.sheet(1, 8, 1);
        due.is("a short sheet", x.load(1), 1);
        due.is("0 came", x.promiseOf(0, 5), 0);
        due.is("second stays", x.promiseOf(1, 5), 48);
    }

    private static void judge() {
        due.at("43 judge");
        PromiseCoins x = ten();
        due.is("sheet below", x.judge(-1), Due.BEYOND);
        due.is("sheet above", x.judge(4), Due.BEYOND);
        due.is("missing", x.judge(0), Due.MISSING);
        x.sheet(0, 16, 4);
        due.is("nothing is kept by no coin", x.judge(0), 0);
        x.write(0, 0, 255);
        due.is("wrong set", x.judge(0), 2);
        x.write(0, 1, 1023);
        due.is("right", x.judge(0), 0);
        x.write(0, 2, 3);
        due.is("wrong second set", x.judge(0), 4);
        x.write(0, 3, 3 + 256 + 512);
        due.is("right", x.judge(0), 0);
        x.write(0, 2, 256);
        due.is("no throw", x.judge(0), 3);
        x.write(0, 2, -1);
        due.is("no throw", x.judge(0), 3);
        x.write(0, 1, 1022);
        due.is("the first wrong one counts", x.judge(0), 2);
        x.sheet(0, 16, 3);
        due.is("a throw without a set", x.judge(0), 4);
        x.write(0, 2, 256);
        due.is("no throw at all", x.judge(0), 3);
        x.sheet(0, 16, 0);
        due.is("empty", x.judge(0), 0);
        x.sheet(0, 8, 2);
        x.write(0, 0, 255);
        due.is("of 8 bits 255 is -1", x.judge(0), 1);
        due.is("the latest throw stays", x.count(2), -1);
    }

    private static void image() {
        due.at("44 image");
        PromiseCoins x = new PromiseCoins();
        x.promise(3, 1, 2, 3);
        x.need(1, 2, 3);
        x.coin(4, 2, 6);
        x.lay(99);
        x.seed(1234);
        x.hold(5, 0);
        Due.feed(x, "need");
        x.sheet(0, 8, 3);
        due.is("image", x.image(), 1);
        x.change(0, 5, 9);
        x.change(0, 0, 1);
        x.promise(0, 0, 0, 1);
        x.hold(6, 1);
        x.need(2, 2, 2);
        x.coin(4, 1, 1);
        x.lay(1);
        x.seed(7);
        x.hold(5, -1);
        Due.feed(x, " 0 1");
        x.sheet(0, 8, 2);
        x.sheet(1, 8, 2);
        due.is("undo", x.undo(), 1);
        int[] parts = {3, 1, 1, 2, 3, 0};
        for (int what = 0; what < 6; what++) {
            due.is("part " + what, x.promiseOf(0, what), parts[what]);
        }
        due.is("needs", x.count(1), 1);
        due.is("latest", x.count(2), 99);
        due.is("z", x.count(4), 1234);
        due.is("spots", x.count(6), 1);
        due.is("spot", x.as(5, 1), 0);
        due.is("coin", x.coin(4, 1, 2), 26);
        due.is("the tape is not kept", x.town(), 1);
        due.is("sheets are not kept", x.write(0, 2, 0), Due.BEYOND);
        due.is("sheets stay", x.write(1, 1, 0), 1);
    }

    private static void undo() {
        due.at("45 undo");
        PromiseCoins x = new PromiseCoins();
        due.is("nothing", x.undo(), Due.NONE);
        x.image();
        x.promise(0, 0, 0, 1);
        due.is("none", x.undo(), 0);
        x.promise(0, 0, 0, 1);
        x.image();
        x.drop();
        due.is("the latest", x.undo(), 1);
        x.promise(0, 0, 0, 1);
        due.is("it stays", x.undo(), 1);
        x.change(0, 4, 9);
        due.is("again", x.undo(), 1);
        due.is("what is done then is not kept", x.promiseOf(0, 4), 1);
        due.is("status is not taken back", x.status(3), 1);
    }

    private static void tear() {
        due.at("46 tear");
        PromiseCoins x = new PromiseCoins();
        due.is("nothing", x.tear(), 0);
        x.image();
        x.image();
        due.is("something", x.tear(), 1);
        due.is("no more", x.tear(), 0);
        due.is("nothing to undo", x.undo(), Due.NONE);
        x.image();
        due.is("anew", x.undo(), 0);
    }

    private static void count() {
        due.at("47 count");
        PromiseCoins x = ten();
        x.need(0, 1, 1);
        x.need(0, 1, 1);
        Due.feed(x, "abc");
        x.coin(0, 1, 5);
        x.hold(0, 3);
        x.hold(1, 3);
        int[] want = {10, 2, -1, 3, 1, 640, 2};
        for (int what = 0; what < 7; what++) {
            due.is("what " + what, x.count(what), want[what]);
        }
        x.lay(0);
        due.is("latest", x.count(2), 0);
        due.is("below", x.count(-1), Due.BEYOND);
        due.is("above", x.count(7), Due.BEYOND);
        x.seed(Due.SIZE);
        due.is("z is no finding", x.count(4), Due.SIZE);
        due.is("counted", x.status(-1), 2);
    }

    private static void status() {
        due.at("48 status");
        PromiseCoins x = new PromiseCoins();
        due.is("beyond", x.status(7), Due.BEYOND);
        due.is("counted from then on", x.status(0), 1);
        due.is("beyond", x.status(-2), Due.BEYOND);
        due.is("all", x.status(-1), 2);
        x.undo();
        x.drop();
        x.kept();
        x.load(0);
        x.sheet(0, 8, -1);
        x.promise(0, 0, 0, 1);
        x.hold(0, 0);
        x.as(0, 1);
        x.as(0, 2);
        for (int i = 0; i < 30; i++) {
            x.feed(0, 4);
        }
        x.feed(0, 1);
        x.town();
        x.image();
        x.undo();
        int[] want = {2, 1, 2, 3, 0, 1, 1};
        int sum = 0;
        for (int which = 0; which < 7; which++) {
            due.is("which " + which, x.status(which), want[which]);
            sum += want[which];
        }
        due.is("all", x.status(-1), sum);
    }

    private static String stateOf(PromiseCoins x) {
        StringBuilder all = new StringBuilder();
        for (int what = 0; what < 7; what++) {
            all.append(x.count(what)).append(' ');
        }
        for (int i = 0; i < x.count(0); i++) {
            for (int what = 0; what < 6; what++) {
                all.append(x.promiseOf(i, what)).append(' ');
            }
        }
        for (int i = 0; i < 8; i++) {
            all.append(x.weight(1 << i)).append(' ');
        }
        return all.toString();
    }

    private static void findingsChangeNothing() {
        due.at("findings change nothing but status");
        PromiseCoins x = ten();
        x.need(0, 1, 1);
        x.lay(5);
        x.hold(2, 2);
        Due.feed(x, "xyz");
        String was = stateOf(x);
        x.feed(0, 0);
        x.coin(3, 2, 1);
        x.promise(0, 0, 0, 1);
        x.change(3, 5, 50);
        x.need(0, 1, 100);
        x.lay(256);
        x.tries(0, 0, 0);
        x.hold(2, 10);
        x.sheet(0, 8, 41);
        x.undo();
        x.fewest(0, 1, 0);
        due.holds("the same state", was.equals(stateOf(x)));
        due.is("all were findings", x.status(-1), 11);
        due.is("the sheet is missing still", x.judge(0), Due.MISSING);
    }
}
