import java.util.function.Supplier;
import java.util.function.ToIntFunction;

/**
 * Terms, FINDINGS: "Each act tells its findings in the order in which they are asked (that of its words);
 * one that answers a finding changes nothing but status()". Each finding of each act stands here by itself,
 * and where two are so at once, the one that is asked first is told.
 */
public final class FindingsTest {
    private static final Due due = new Due();
    private static final Supplier<PromiseCoins> FULL = () -> Towns.made(10, 6);
    private static final Supplier<PromiseCoins> ROOM = () -> Towns.made(9, 5);
    /** Promises and a need, but no throw, no image, nothing held, all sheets missing. */
    private static final Supplier<PromiseCoins> BARE = FindingsTest::bare;
    private static final Supplier<PromiseCoins> NEW = PromiseCoins::new;

    private static final int LEAST = Integer.MIN_VALUE;
    private static final int GREATEST = Integer.MAX_VALUE;

    public static void main(String[] args) {
        numbers();
        feed();
        promiseAndNeed();
        drop();
        throwsAreMissing();
        choices();
        spots();
        sheet();
        write();
        copy();
        copyBeyond();
        loadAndJudge();
        undo();
        nothingIsThere();
        due.end();
    }

    private static PromiseCoins bare() {
        PromiseCoins x = new PromiseCoins();
        x.promise(0, 0, 0, 1);
        x.promise(6, 1, 0, 1);
        x.need(0, 2, 1);
        return x;
    }

    private static void refused(String call, Supplier<PromiseCoins> past, ToIntFunction<PromiseCoins> act, int finding) {
        Twins.refused(due, call, past, act, finding);
    }

    private static void numbers() {
        due.at("Terms: 'LOW is -1000001; LOW BEYOND, LOW - 1 FULL, LOW - 2 KIND, LOW - 3 NONE, .. LOW - 6 SIZE'");
        PromiseCoins x = FULL.get();
        due.is("BEYOND", x.lay(256), -1000001);
        due.is("FULL", x.promise(0, 0, 0, 1), -1000002);
        due.is("KIND", x.as(0, 1), -1000003);
        x.tear();
        due.is("NONE", x.undo(), -1000004);
        due.is("MISSING", x.load(3), -1000006);
        due.is("SIZE", x.sheet(0, 8, -1), -1000007);
    }

    private static PromiseCoins withTape(int bytes) {
        PromiseCoins x = ROOM.get();
        x.wipe();
        Towns.feed(x, (Towns.TEXT + " ".repeat(120)).substring(0, bytes));
        return x;
    }

    private static void feed() {
        due.at("Promise 2 feed: 'BEYOND: n. FULL.', THE TAPE at most 120 bytes");
        refused("full, 1 byte", () -> withTape(120), x -> x.feed(59, 1), Due.FULL);
        refused("full, 4 bytes", () -> withTape(120), x -> x.feed(59, 4), Due.FULL);
        refused("119 bytes, 2 more: none of them comes", () -> withTape(119), x -> x.feed(0x3b3b, 2), Due.FULL);
        refused("118 bytes, 3 more", () -> withTape(118), x -> x.feed(0x3b3b3b, 3), Due.FULL);
        refused("117 bytes, 4 more", () -> withTape(117), x -> x.feed(0x3b3b3b3b, 4), Due.FULL);
        refused("BEYOND is asked ahead of FULL, n 0", () -> withTape(120), x -> x.feed(59, 0), Due.BEYOND);
        refused("BEYOND is asked ahead of FULL, n 5", () -> withTape(120), x -> x.feed(59, 5), Due.BEYOND);
        refused("no wrap-around of n", () -> withTape(120), x -> x.feed(59, GREATEST), Due.BEYOND);
        refused("no wrap-around of n", () -> withTape(120), x -> x.feed(59, LEAST), Due.BEYOND);
    }

    private static void promiseAndNeed() {
        due.at("Promise 6 promise: 'BEYOND: kind, coin, thing, number. FULL.'");
        refused("an 11th", FULL, x -> x.promise(0, 0, 0, 1), Due.FULL);
        refused("BEYOND first: kind", FULL, x -> x.promise(7, 0, 0, 1), Due.BEYOND);
        refused("BEYOND first: coin", FULL, x -> x.promise(0, 8, 0, 1), Due.BEYOND);
        refused("BEYOND first: thing", FULL, x -> x.promise(0, 0, 6, 1), Due.BEYOND);
        refused("BEYOND first: number", FULL, x -> x.promise(0, 0, 0, 0), Due.BEYOND);
        due.at("Promise 10 need: 'BEYOND. FULL.'");
        refused("a 7th", FULL, x -> x.need(0, 1, 1), Due.FULL);
        refused("BEYOND first: thing", FULL, x -> x.need(-1, 1, 1), Due.BEYOND);
        refused("BEYOND first: number", FULL, x -> x.need(0, 41, 1), Due.BEYOND);
        refused("BEYOND first: worth", FULL, x -> x.need(0, 1, 0), Due.BEYOND);
    }

    private static void drop() {
        due.at("Promise 9 drop: 'NONE.'");
        refused("a new object", NEW, PromiseCoins::drop, Due.NONE);
        refused("all but promises", () -> Towns.made(0, 6), PromiseCoins::drop, Due.NONE);
    }

    private static void throwsAreMissing() {
        due.at("Promise 14 kept: 'NONE: there is none.'");
        refused("no throw", BARE, PromiseCoins::kept, Due.NONE);
        due.at("Promise 15 owes: 'BEYOND. NONE.'");
        refused("no throw", BARE, x -> x.owes(3), Due.NONE);
        refused("no throw, the empty set", BARE, x -> x.owes(0), Due.NONE);
        refused("BEYOND first", BARE, x -> x.owes(4), Due.BEYOND);
        refused("BEYOND first, below", BARE, x -> x.owes(-1), Due.BEYOND);
        due.at("Promise 16 brings: 'BEYOND. NONE.'");
        refused("no throw", BARE, x -> x.brings(3, 5), Due.NONE);
        refused("BEYOND first: set", BARE, x -> x.brings(4, 0), Due.BEYOND);
        refused("BEYOND first: thing", BARE, x -> x.brings(3, 6), Due.BEYOND);
        refused("BEYOND first: thing below", BARE, x -> x.brings(3, -1), Due.BEYOND);
        due.at("Promise 17 met: 'BEYOND. NONE.'");
        refused("no throw", BARE, x -> x.met(3), Due.NONE);
        refused("BEYOND first", BARE, x -> x.met(4), Due.BEYOND);
    }

    private static void choices() {
        due.at("Promise 27 fewest: 'BEYOND. NONE.'");
        refused("never", FULL, x -> x.fewest(1, 1, 999), Due.NONE);
        refused("BEYOND first: need", FULL, x -> x.fewest(6, 1, 1), Due.BEYOND);
        refused("BEYOND first: b", FULL, x -> x.fewest(1, 1, 1000), Due.BEYOND);
        refused("BEYOND first: a", FULL, x -> x.fewest(1, 2, 1), Due.BEYOND);
        refused("a and b below", FULL, x -> x.fewest(1, LEAST, LEAST), Due.BEYOND);
        refused("a and b above", FULL, x -> x.fewest(1, GREATEST, GREATEST), Due.BEYOND);
        refused("b 1000", FULL, x -> x.fewest(0, 1000, 1000), Due.BEYOND);
        refused("b 0", FULL, x -> x.fewest(0, 0, 0), Due.BEYOND);
        due.at("Promise 28 cheapest: 'BEYOND. NONE.'");
        refused("never", FULL, x -> x.cheapest(1, 1, 999), Due.NONE);
        refused("BEYOND first: need", FULL, x -> x.cheapest(6, 1, 1), Due.BEYOND);
        refused("BEYOND first: b", FULL, x -> x.cheapest(1, 1, 1000), Due.BEYOND);
        refused("BEYOND first: a", FULL, x -> x.cheapest(1, 2, 1), Due.BEYOND);
        refused("a and b below", FULL, x -> x.cheapest(1, LEAST, LEAST), Due.BEYOND);
        refused("a and b above", FULL, x -> x.cheapest(1, GREATEST, GREATEST), Due.BEYOND);
        refused("b 1000", FULL, x -> x.cheapest(0, 1000, 1000), Due.BEYOND);
        refused("b 0", FULL, x -> x.cheapest(0, 0, 0), Due.BEYOND);
        due.at("Promise 29 most: 'BEYOND.'");
        refused("b 1000", FULL, x -> x.most(0, 1000, 1000), Due.BEYOND);
        refused("b 0", FULL, x -> x.most(0, 0, 0), Due.BEYOND);
        refused("a and b below", FULL, x -> x.most(0, LEAST, LEAST), Due.BEYOND);
        due.at("Promise 34 apart: 'BEYOND (also one and the same).'");
        for (int i = 0; i < 10; i++) {
            int same = i;
            refused("one and the same, " + i, FULL, x -> x.apart(same, same), Due.BEYOND);
        }
        refused("one and the same that isn't there", FULL, x -> x.apart(10, 10), Due.BEYOND);
    }

    private static void spots() {
        due.at("Promise 37 hold: 'BEYOND.'");
        refused("nothing, in no spot", FULL, x -> x.hold(10, -1), Due.BEYOND);
        refused("nothing, in no spot", FULL, x -> x.hold(-1, -1), Due.BEYOND);
        refused("no promise, in a spot that holds one", FULL, x -> x.hold(0, -2), Due.BEYOND);
        refused("no promises at all", NEW, x -> x.hold(0, 0), Due.BEYOND);
        due.at("Promise 38 as: 'BEYOND. MISSING: it holds nothing. KIND: ..'");
        refused("it holds nothing", BARE, x -> x.as(9, 0), Due.MISSING);
        refused("BEYOND first: kind 7", BARE, x -> x.as(9, 7), Due.BEYOND);
        refused("BEYOND first: kind -1", BARE, x -> x.as(9, -1), Due.BEYOND);
        refused("BEYOND first: spot 10", BARE, x -> x.as(10, 0), Due.BEYOND);
        refused("another kind", FULL, x -> x.as(0, 6), Due.KIND);
        refused("BEYOND ahead of KIND", FULL, x -> x.as(0, 7), Due.BEYOND);
        refused("a kind above isn't of the kind under it", FULL, x -> x.as(3, 6), Due.KIND);
        refused("a kind beside", FULL, x -> x.as(5, 1), Due.KIND);
    }

    private static void sheet() {
        due.at("Promise 39 sheet: 'BEYOND: no such sheet, other bits. SIZE: n is below 0. BEYOND: n is above 40'");
        refused("no such sheet ahead of SIZE", FULL, x -> x.sheet(4, 8, -1), Due.BEYOND);
        refused("no such sheet ahead of SIZE", FULL, x -> x.sheet(-1, 0, -1), Due.BEYOND);
        refused("other bits ahead of SIZE", FULL, x -> x.sheet(0, 9, -1), Due.BEYOND);
        refused("SIZE", FULL, x -> x.sheet(0, 16, -1), Due.SIZE);
        refused("SIZE, also with bits 0", FULL, x -> x.sheet(0, 0, -1), Due.SIZE);
        refused("SIZE, of a missing one", FULL, x -> x.sheet(3, 0, LEAST), Due.SIZE);
        refused("above 40", FULL, x -> x.sheet(0, 16, 41), Due.BEYOND);
        refused("above 40, also with bits 0", FULL, x -> x.sheet(0, 0, 41), Due.BEYOND);
        refused("above 40, of a missing one", FULL, x -> x.sheet(3, 0, GREATEST), Due.BEYOND);
    }

    private static void write() {
        due.at("Promise 40 write: 'BEYOND: no such sheet. MISSING. BEYOND: no such number.'");
        refused("no such sheet", NEW, x -> x.write(4, 0, 1), Due.BEYOND);
        refused("no such sheet", NEW, x -> x.write(-1, 0, 1), Due.BEYOND);
        refused("missing", FULL, x -> x.write(3, 0, 1), Due.MISSING);
        refused("MISSING ahead of no such number, below", FULL, x -> x.write(3, -1, 1), Due.MISSING);
        refused("MISSING ahead of no such number, above", FULL, x -> x.write(3, 40, 1), Due.MISSING);
        refused("no number of an empty one", FULL, x -> x.write(2, 0, 1), Due.BEYOND);
        refused("no number 3 of three", FULL, x -> x.write(1, 3, 1), Due.BEYOND);
        refused("no number 40 of forty", FULL, x -> x.write(0, 40, 1), Due.BEYOND);
        refused("no number -1", FULL, x -> x.write(0, -1, 1), Due.BEYOND);
    }

    /** Of 8 bits: sheet 0 (5 numbers) and 1 (3 numbers); of 16 bits: 2 (5 numbers); 3 is missing. */
    private static PromiseCoins copies() {
        PromiseCoins x = ROOM.get();
        x.sheet(0, 8, 5);
        x.sheet(1, 8, 3);
        x.sheet(2, 16, 5);
        for (int i = 0; i < 5; i++) {
            x.write(0, i, 11 + i);
            x.write(2, i, 31 + i);
        }
        for (int i = 0; i < 3; i++) {
            x.write(1, i, 21 + i);
        }
        return x;
    }

    private static void copy() {
        due.at("Promise 41 copy: 'BEYOND: no such sheet (either). MISSING: one is. KIND: .. BEYOND: ..'");
        Supplier<PromiseCoins> past = FindingsTest::copies;
        refused("no such sheet s", past, x -> x.copy(4, 0, 0, 0, 1), Due.BEYOND);
        refused("no such sheet t", past, x -> x.copy(0, 0, 4, 0, 1), Due.BEYOND);
        refused("no such sheet s, below", past, x -> x.copy(-1, 0, 0, 0, 1), Due.BEYOND);
        refused("no such sheet t, below", past, x -> x.copy(0, 0, -1, 0, 1), Due.BEYOND);
        refused("no such sheet ahead of MISSING", past, x -> x.copy(3, 0, 4, 0, 1), Due.BEYOND);
        refused("no such sheet ahead of MISSING", past, x -> x.copy(4, 0, 3, 0, 1), Due.BEYOND);
        refused("s is missing", past, x -> x.copy(3, 0, 0, 0, 0), Due.MISSING);
        refused("t is missing", past, x -> x.copy(0, 0, 3, 0, 0), Due.MISSING);
        refused("both are missing", past, x -> x.copy(3, 0, 3, 0, 0), Due.MISSING);
        refused("MISSING ahead of n below 0", past, x -> x.copy(0, 0, 3, 0, -1), Due.MISSING);
        refused("MISSING ahead of from below 0", past, x -> x.copy(3, -1, 0, 0, 0), Due.MISSING);
        refused("8 bits to 16", past, x -> x.copy(0, 0, 2, 0, 1), Due.KIND);
        refused("16 bits to 8", past, x -> x.copy(2, 0, 0, 0, 1), Due.KIND);
        refused("KIND, also for no number", past, x -> x.copy(0, 0, 2, 0, 0), Due.KIND);
        refused("KIND ahead of n below 0", past, x -> x.copy(0, 0, 2, 0, -1), Due.KIND);
        refused("KIND ahead of from too far", past, x -> x.copy(0, 6, 2, 0, 1), Due.KIND);
    }

    private static void copyBeyond() {
        due.at("Promise 41 copy: 'BEYOND: one has not so many, or from, to or n is below 0'");
        Supplier<PromiseCoins> past = FindingsTest::copies;
        refused("s has not so many", past, x -> x.copy(1, 0, 0, 0, 4), Due.BEYOND);
        refused("t has not so many", past, x -> x.copy(0, 0, 1, 0, 4), Due.BEYOND);
        refused("s has not so many from there on", past, x -> x.copy(0, 3, 1, 0, 3), Due.BEYOND);
        refused("t has not so many from there on", past, x -> x.copy(0, 0, 1, 1, 3), Due.BEYOND);
        refused("no number behind the end of s", past, x -> x.copy(1, 4, 0, 0, 0), Due.BEYOND);
        refused("no number behind the end of t", past, x -> x.copy(0, 0, 1, 4, 0), Due.BEYOND);
        refused("from below 0", past, x -> x.copy(0, -1, 1, 0, 2), Due.BEYOND);
        refused("from below 0, no number", past, x -> x.copy(0, -1, 1, 0, 0), Due.BEYOND);
        refused("to below 0", past, x -> x.copy(0, 0, 1, -1, 2), Due.BEYOND);
        refused("to below 0, no number", past, x -> x.copy(0, 0, 1, -1, 0), Due.BEYOND);
        refused("n below 0", past, x -> x.copy(0, 1, 1, 1, -1), Due.BEYOND);
        refused("n the least int", past, x -> x.copy(0, 1, 1, 1, LEAST), Due.BEYOND);
        refused("from and n wrap around", past, x -> x.copy(0, 1, 1, 0, GREATEST), Due.BEYOND);
        refused("from and n wrap around", past, x -> x.copy(0, GREATEST, 1, 0, 1), Due.BEYOND);
        refused("from and n wrap around to a small one", past, x -> x.copy(0, GREATEST, 0, GREATEST, GREATEST), Due.BEYOND);
        refused("to and n wrap around", past, x -> x.copy(0, 0, 1, GREATEST, 1), Due.BEYOND);
        refused("from the least int", past, x -> x.copy(0, LEAST, 1, 0, 1), Due.BEYOND);
        refused("from and n the least", past, x -> x.copy(0, LEAST, 1, 0, LEAST), Due.BEYOND);
    }

    private static void loadAndJudge() {
        due.at("Promise 42 load: 'BEYOND: no such sheet. MISSING.'");
        refused("below", FULL, x -> x.load(-1), Due.BEYOND);
        refused("above", FULL, x -> x.load(4), Due.BEYOND);
        refused("missing", FULL, x -> x.load(3), Due.MISSING);
        refused("all are missing at first", NEW, x -> x.load(0), Due.MISSING);
        due.at("Promise 43 judge: 'BEYOND: no such sheet. MISSING.'");
        refused("below", FULL, x -> x.judge(-1), Due.BEYOND);
        refused("above", FULL, x -> x.judge(4), Due.BEYOND);
        refused("missing", FULL, x -> x.judge(3), Due.MISSING);
        refused("all are missing at first", NEW, x -> x.judge(0), Due.MISSING);
    }

    private static void undo() {
        due.at("Promise 45 undo: 'NONE: nothing is kept.'");
        refused("a new object", NEW, PromiseCoins::undo, Due.NONE);
        refused("after tear()", () -> {
            PromiseCoins x = FULL.get();
            x.tear();
            return x;
        }, PromiseCoins::undo, Due.NONE);
    }

    private static void nothingIsThere() {
        due.at("Promises 7, 8, 11, 19 to 21, 27, 28, 33 to 35: of a new object, which has no promise and no need");
        refused("promiseOf", NEW, x -> x.promiseOf(0, 0), Due.BEYOND);
        refused("change", NEW, x -> x.change(0, 0, 0), Due.BEYOND);
        refused("needOf", NEW, x -> x.needOf(0, 0), Due.BEYOND);
        refused("chance", NEW, x -> x.chance(0, 0), Due.BEYOND);
        refused("joint", NEW, x -> x.joint(0, 0, 0, 0), Due.BEYOND);
        refused("sure", NEW, x -> x.sure(0, 0, 0), Due.BEYOND);
        refused("fewest", NEW, x -> x.fewest(0, 0, 1), Due.BEYOND);
        refused("cheapest", NEW, x -> x.cheapest(0, 0, 1), Due.BEYOND);
        refused("asks", NEW, x -> x.asks(0), Due.BEYOND);
        refused("apart", NEW, x -> x.apart(0, 1), Due.BEYOND);
        refused("tries", NEW, x -> x.tries(0, 0, 1), Due.BEYOND);
        refused("owes of a set of one", NEW, x -> x.owes(1), Due.BEYOND);
        refused("all of a set of one", NEW, x -> x.all(1, 0), Due.BEYOND);
    }
}
