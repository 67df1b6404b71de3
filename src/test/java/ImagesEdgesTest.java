/** Promises 44 to 48, and 512 calls: each sentence that names a boundary case. */
public final class ImagesEdgesTest {
    private static final Due due = new Due();

    public static void main(String[] args) {
        imageOfANewObject();
        imageOfAFullOne();
        imageLeavesOutTapeAndSheets();
        imageIsTheLatest();
        imageIsNoMirror();
        undoOfNothing();
        undoMoreThanOnce();
        undoBringsBackLess();
        undoAfterATextWithAFault();
        tearOfNothingAndOfSomething();
        countOfEach();
        countOfTheMost();
        statusOfEach();
        statusCountsItself();
        statusIsNotTakenBack();
        statusOfWhatIsNoFinding();
        fiveHundredAndTwelveCalls();
        fiveHundredAndTwelveDearCalls();
        due.end();
    }

    private static void imageOfANewObject() {
        due.at("Promise 44: 'All but THE TAPE and SHEETS is kept: 1', of a new object");
        PromiseCoins x = new PromiseCoins();
        due.is("image", x.image(), 1);
        x.promise(1, 1, 1, 1);
        x.hold(0, 0);
        x.need(1, 1, 1);
        x.lay(0);
        x.seed(9);
        x.coin(0, 0, 1);
        due.is("none", x.undo(), 0);
        int[] counts = {0, 0, -1, 0, 1, 256, 0};
        for (int what = 0; what < 7; what++) {
            due.is("count " + what, x.count(what), counts[what]);
        }
        due.is("no throw again", x.kept(), Due.NONE);
        due.is("no promise again", x.promiseOf(0, 0), Due.BEYOND);
        due.is("no need again", x.needOf(0, 0), Due.BEYOND);
    }

    private static void imageOfAFullOne() {
        due.at("Promise 44: of ten PROMISES, six NEEDS, ten SPOTS that hold something");
        PromiseCoins x = Towns.made(10, 6);
        due.is("image", x.image(), 1);
        for (int i = 9; i >= 0; i--) {
            x.drop();
        }
        for (int i = 0; i < 10; i++) {
            x.promise(4, 6, 5, 4);
        }
        Towns.coins(x, 2, 3);
        x.lay(3);
        x.seed(4);
        due.is("ten", x.undo(), 10);
        PromiseCoins y = Towns.made(10, 6);
        y.image();
        Twins.same(due, "as it was", x, y);
    }

    private static void imageLeavesOutTapeAndSheets() {
        due.at("Promises 44, 45: undo() leaves THE TAPE and SHEETS as they are");
        PromiseCoins x = Towns.made(3, 2);
        x.image();
        x.wipe();
        Towns.feed(x, "need 4 4 worth 4");
        x.sheet(0, 0, 0);
        x.sheet(1, 32, 2);
        x.write(1, 1, 17);
        x.sheet(3, 16, 1);
        due.is("three", x.undo(), 3);
        due.is("THE TAPE is what it is", x.count(3), 16);
        due.is("it is read", x.town(), 1);
        due.is("what it told", x.needOf(2, 1), 4);
        due.is("sheet 0 is missing", x.load(0), Due.MISSING);
        due.is("sheet 1 has two", x.load(1), 2);
        due.is("the second", x.promiseOf(1, 5), 17);
        due.is("sheet 3 is there", x.judge(3), 2);
        PromiseCoins y = new PromiseCoins();
        y.image();
        Towns.feed(y, " ".repeat(120));
        y.undo();
        due.is("a full TAPE stays full", y.feed(32, 1), Due.FULL);
    }

    private static void imageIsTheLatest() {
        due.at("Promise 45: 'It becomes what was kept latest (which stays)'");
        PromiseCoins x = new PromiseCoins();
        for (int i = 0; i < 10; i++) {
            due.is("image", x.image(), 1);
            x.promise(0, 0, 0, 1);
        }
        due.is("the latest", x.undo(), 9);
        due.is("it stays", x.undo(), 9);
        x.drop();
        due.is("it stays", x.undo(), 9);
        x.drop();
        x.image();
        due.is("a later one", x.undo(), 8);
    }

    private static void imageIsNoMirror() {
        due.at("Promise 44: what changes later does not change what is kept, part by part");
        PromiseCoins x = Towns.made(10, 6);
        x.image();
        for (int i = 0; i < 10; i++) {
            x.change(i, 0, 5);
            x.change(i, 1, 3);
            x.change(i, 2, 6);
            x.change(i, 3, 2);
            x.change(i, 4, 1);
            x.change(i, 5, 33);
            x.hold(i, -1);
        }
        Towns.coins(x, 4, 5);
        due.is("undo", x.undo(), 10);
        x.change(0, 5, 11);
        x.coin(0, 0, 2);
        x.hold(0, 5);
        x.lay(200);
        x.cast();
        due.is("and once more", x.undo(), 10);
        PromiseCoins y = Towns.made(10, 6);
        y.image();
        Twins.same(due, "as it was", x, y);
    }

    private static void undoOfNothing() {
        due.at("Promise 45: 'NONE: nothing is kept.'");
        PromiseCoins x = new PromiseCoins();
        due.is("at first", x.undo(), Due.NONE);
        x.promise(0, 0, 0, 1);
        due.is("still", x.undo(), Due.NONE);
        due.is("the promise stays", x.count(0), 1);
        x.image();
        x.tear();
        due.is("after tear()", x.undo(), Due.NONE);
        due.is("counted", x.status(3), 3);
    }

    private static void undoMoreThanOnce() {
        due.at("Promise 45: '(which stays)': z and THE LATEST THROW come back each time");
        PromiseCoins x = new PromiseCoins();
        x.seed(-77);
        x.lay(5);
        x.image();
        int cast = x.cast();
        for (int i = 0; i < 5; i++) {
            due.is("undo", x.undo(), 0);
            due.is("z", x.count(4), -77);
            due.is("THE LATEST THROW", x.count(2), 5);
            due.is("the same THROW", x.cast(), cast);
        }
    }

    private static void undoBringsBackLess() {
        due.at("Promise 45: 'how many PROMISES', fewer and more than there are; SPOTS hold what is there then");
        PromiseCoins x = new PromiseCoins();
        x.image();
        for (int i = 0; i < 10; i++) {
            x.promise(0, 0, 0, 1);
            x.hold(i, i);
        }
        due.is("none", x.undo(), 0);
        due.is("no SPOT", x.count(6), 0);
        for (int i = 0; i < 10; i++) {
            due.is("no SPOT", x.as(i, 0), Due.MISSING);
            x.promise(i % 7, 0, 0, 1);
            due.is("a new one is in no SPOT", x.count(6), 0);
        }
        x.hold(9, 9);
        x.image();
        for (int i = 0; i < 10; i++) {
            x.drop();
        }
        due.is("ten", x.undo(), 10);
        due.is("the SPOT holds it again", x.as(9, 0), 9);
    }

    private static void undoAfterATextWithAFault() {
        due.at("Promises 4, 45: a TEXT with a FAULT does nothing to what is kept");
        PromiseCoins x = new PromiseCoins();
        x.promise(3, 3, 3, 3);
        x.image();
        due.is("a FAULT", Towns.town(x, "coin 0 0 in 1;back 1 brings 1 1;need 0 1;"), -42);
        due.is("no FAULT", Towns.town(x, "coin 1 0 in 1;back 1 brings 1 1"), 2);
        due.is("undo", x.undo(), 1);
        due.is("coin 0", x.coin(0, 1, 2), 12);
        due.is("coin 1", x.coin(1, 1, 2), 12);
        due.is("needs", x.count(1), 0);
    }

    private static void tearOfNothingAndOfSomething() {
        due.at("Promise 46: 'Nothing is kept: 1 if something was, else 0.'");
        PromiseCoins x = new PromiseCoins();
        due.is("nothing", x.tear(), 0);
        due.is("nothing", x.tear(), 0);
        x.image();
        x.image();
        due.is("something", x.tear(), 1);
        due.is("nothing", x.tear(), 0);
        due.is("no finding", x.status(-1), 0);
        due.is("nothing to undo", x.undo(), Due.NONE);
        due.is("kept anew", x.image(), 1);
        due.is("undo", x.undo(), 0);
        due.is("undo takes nothing away", x.tear(), 1);
        PromiseCoins y = Towns.made(10, 6);
        PromiseCoins z = Towns.made(10, 6);
        due.is("something", y.tear(), 1);
        due.is("all else stays, promises", y.count(0), z.count(0));
        due.is("all else stays, tape", y.town(), z.town());
    }

    private static void countOfEach() {
        due.at("Promise 47: each of what 0 to 6, of a town; '2 THE LATEST THROW (-1: none)'");
        PromiseCoins x = Towns.made(10, 6);
        int[] want = {10, 6, Towns.LATEST, Towns.TEXT.length(), Towns.Z, Towns.ALL, 10};
        for (int what = 0; what < 7; what++) {
            due.is("what " + what, x.count(what), want[what]);
        }
        x.lay(0);
        due.is("a THROW of no HEADS isn't none", x.count(2), 0);
        x.lay(255);
        due.is("of all HEADS", x.count(2), 255);
        for (int bad : new int[] {-1, 7, 8, 32, Integer.MIN_VALUE, Integer.MAX_VALUE}) {
            due.is("what " + bad, x.count(bad), Due.BEYOND);
        }
        due.is("counted", x.status(0), 6);
    }

    private static void countOfTheMost() {
        due.at("Promise 47: ALL from 1 to 6^8, THE TAPE from 0 to 120");
        PromiseCoins x = new PromiseCoins();
        Towns.coins(x, 0, 1);
        due.is("1", x.count(5), 1);
        Towns.coins(x, 0, 6);
        due.is("6^8", x.count(5), 1679616);
        due.is("no bytes", x.count(3), 0);
        Towns.feed(x, "z".repeat(120));
        due.is("all bytes", x.count(3), 120);
        x.feed(0, 1);
        due.is("no more", x.count(3), 120);
    }

    private static void statusOfEach() {
        due.at("Promise 48: 'which -1: all, 0 to 6: BEYOND to SIZE'");
        PromiseCoins x = Towns.made(10, 6);
        for (int i = 0; i < 1; i++) {
            x.lay(-1);
        }
        for (int i = 0; i < 2; i++) {
            x.promise(0, 0, 0, 1);
        }
        for (int i = 0; i < 3; i++) {
            x.as(0, 1);
        }
        for (int i = 0; i < 4; i++) {
            x.fewest(1, 1, 1);
        }
        for (int i = 0; i < 6; i++) {
            x.load(3);
        }
        for (int i = 0; i < 7; i++) {
            x.sheet(0, 0, -1);
        }
        int[] want = {1, 2, 3, 4, 0, 6, 7};
        for (int which = 0; which < 7; which++) {
            due.is("which " + which, x.status(which), want[which]);
        }
        due.is("all", x.status(-1), 23);
        due.is("all, once more", x.status(-1), 23);
    }

    private static void statusCountsItself() {
        due.at("Promise 48: 'BEYOND (counted from then on): another one.'");
        PromiseCoins x = new PromiseCoins();
        int n = 0;
        for (int bad : new int[] {7, -2, 8, 32, -33, Integer.MIN_VALUE, Integer.MAX_VALUE}) {
            due.is("which " + bad, x.status(bad), Due.BEYOND);
            n++;
            due.is("BEYOND", x.status(0), n);
            due.is("all", x.status(-1), n);
        }
        due.is("no other", x.status(6), 0);
    }

    private static void statusIsNotTakenBack() {
        due.at("Promise 48: '(undo() takes none back)', nor town(), tear(), wipe()");
        PromiseCoins x = new PromiseCoins();
        x.image();
        x.drop();
        x.lay(-1);
        x.undo();
        due.is("all", x.status(-1), 2);
        x.image();
        x.load(0);
        x.undo();
        x.tear();
        x.wipe();
        Towns.town(x, "need 0 1");
        due.is("all", x.status(-1), 3);
        due.is("NONE", x.status(3), 1);
        due.is("BEYOND", x.status(0), 1);
        due.is("MISSING", x.status(5), 1);
    }

    private static void statusOfWhatIsNoFinding() {
        due.at("Terms: 'FINDINGS are answers below -1000000', and z, which is none; Promise 48");
        PromiseCoins x = new PromiseCoins();
        for (int finding = -1000001; finding >= -1000007; finding--) {
            x.seed(finding);
            due.is("count(4)", x.count(4), finding);
        }
        due.is("seed", x.seed(1), -1000007);
        due.is("a FAULT is none", x.town(), -1);
        due.is("what is not kept is none", x.tear(), 0);
        due.is("THE LATEST THROW -1 is none", x.count(2), -1);
        due.is("none", x.status(-1), 0);
    }

    private static void fiveHundredAndTwelveCalls() {
        due.at("What it is: 'An object is used for at most 512 calls after it has been made'");
        PromiseCoins x = new PromiseCoins();
        for (int i = 0; i < 511; i++) {
            due.is("NONE", x.drop(), Due.NONE);
        }
        due.is("the 512th", x.status(3), 511);
        PromiseCoins y = new PromiseCoins();
        for (int i = 0; i < 511; i++) {
            due.is("image", y.image(), 1);
        }
        due.is("the 512th", y.tear(), 1);
        PromiseCoins z = new PromiseCoins();
        for (int i = 0; i < 256; i++) {
            due.is("feed", z.feed(' ', 1), 1);
            due.is("wipe", z.wipe(), 1);
        }
    }

    private static void fiveHundredAndTwelveDearCalls() {
        due.at("What it is: 512 calls that are dear, of ten PROMISES and six NEEDS");
        PromiseCoins x = Towns.made(10, 6);
        PromiseCoins y = Towns.made(10, 6);
        int fewest = y.fewest(4, 5, 6);
        int cheapest = y.cheapest(3, 2, 9);
        int most = y.most(55, 1, 3);
        int best = y.best();
        int helps = y.helps();
        for (int i = 0; i < 80; i++) {
            due.is("fewest", x.fewest(4, 5, 6), fewest);
            due.is("cheapest", x.cheapest(3, 2, 9), cheapest);
            due.is("most", x.most(55, 1, 3), most);
            due.is("best", x.best(), best);
            due.is("helps", x.helps(), helps);
        }
    }
}
