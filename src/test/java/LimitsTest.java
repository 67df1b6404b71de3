import java.lang.reflect.Method;
import java.util.TreeSet;
import java.util.function.Supplier;

/**
 * For each number that a call takes: the least and the greatest are taken, and answer as told; the first on
 * either side, and numbers that would come back into the range if they wrapped around, are refused, and
 * then nothing has changed but status(). Each row names the promise and holds its sentence "BEYOND".
 */
public final class LimitsTest {
    private static final Due due = new Due();
    private static final Supplier<PromiseCoins> FULL = () -> Towns.made(10, 6);
    private static final Supplier<PromiseCoins> ROOM = () -> Towns.made(9, 5);

    public static void main(String[] args) throws Exception {
        town();
        laid();
        chances();
        choices();
        coins();
        sheets();
        counts();
        due.end();
    }

    private static int[] args(int... args) {
        return args;
    }

    private static int call(PromiseCoins x, String name, int[] args) {
        try {
            Class<?>[] types = new Class<?>[args.length];
            Object[] boxed = new Object[args.length];
            for (int i = 0; i < args.length; i++) {
                types[i] = int.class;
                boxed[i] = args[i];
            }
            Method m = PromiseCoins.class.getMethod(name, types);
            return (int) m.invoke(x, boxed);
        } catch (ReflectiveOperationException e) {
            throw new IllegalStateException(name, e);
        }
    }

    private static String told(String name, int[] args) {
        return name + java.util.Arrays.toString(args);
    }

    private static int[] with(int[] args, int at, int v) {
        int[] changed = args.clone();
        changed[at] = v;
        return changed;
    }

    private static void row(Supplier<PromiseCoins> past, String what, String name, int[] args, int at,
            int least, int ofLeast, int greatest, int ofGreatest) {
        taken(past, what, name, with(args, at, least), ofLeast);
        taken(past, what, name, with(args, at, greatest), ofGreatest);
        for (int v : outside(least, greatest)) {
            int[] bad = with(args, at, v);
            due.at("Promise " + what + ", 'BEYOND'");
            Twins.refused(due, told(name, bad), past, x -> call(x, name, bad), Due.BEYOND);
        }
    }

    private static void taken(Supplier<PromiseCoins> past, String what, String name, int[] args, int want) {
        due.at("Promise " + what + ", the least and the greatest");
        PromiseCoins x = past.get();
        int findings = x.status(-1);
        due.is(told(name, args), call(x, name, args), want);
        due.is(told(name, args) + ": no finding", x.status(-1), findings);
    }

    /** The first on either side, the ends of an int, and what comes into the range by 5, 8, 16, 31 bits. */
    private static Iterable<Integer> outside(int least, int greatest) {
        TreeSet<Integer> all = new TreeSet<>();
        for (long v : new long[] {least - 1L, greatest + 1L, Integer.MIN_VALUE, Integer.MAX_VALUE, least + 32L,
            least + 256L, least - 256L, least + 65536L, greatest - 65536L, least + 1L + Integer.MIN_VALUE}) {
            if ((v < least || v > greatest) && v == (int) v) {
                all.add((int) v);
            }
        }
        return all;
    }

    private static void town() {
        row(FULL, "2 feed: n 1 to 4", "feed", args(0x20202020, 0), 1, 1, 14, 4, 17);
        row(FULL, "5 coin: COINS 0 to 7", "coin", args(0, 1, 2), 0, 0, 12, 7, 15);
        row(FULL, "5 coin: a 0 to b", "coin", args(5, 0, 4), 1, 0, 56, 4, 56);
        row(FULL, "5 coin: b 1 to 6", "coin", args(2, 1, 0), 2, 1, 23, 6, 23);
        row(FULL, "5 coin: b 1 to 6, with a 0", "coin", args(2, 0, 0), 2, 1, 23, 6, 23);
        row(ROOM, "6 promise: KINDS 0 to 6", "promise", args(0, 1, 2, 3), 0, 0, 9, 6, 9);
        row(ROOM, "6 promise: COINS 0 to 7", "promise", args(0, 1, 2, 3), 1, 0, 9, 7, 9);
        row(ROOM, "6 promise: a THING 0 to 5", "promise", args(0, 1, 2, 3), 2, 0, 9, 5, 9);
        row(ROOM, "6 promise: a NUMBER 1 to 9", "promise", args(0, 1, 2, 3), 3, 1, 9, 9, 9);
        row(FULL, "7 promiseOf: ten promises", "promiseOf", args(0, 4), 0, 0, 1, 9, 8);
        row(ROOM, "7 promiseOf: nine promises", "promiseOf", args(0, 5), 0, 0, 0, 8, 49);
        row(FULL, "7 promiseOf: what 0 to 5", "promiseOf", args(7, 0), 1, 0, 6, 5, 1);
        row(FULL, "8 change: ten promises", "change", args(0, 4, 5), 0, 0, 1, 9, 8);
        row(ROOM, "8 change: nine promises", "change", args(0, 4, 5), 0, 0, 1, 8, 9);
        row(FULL, "8 change: what 0 to 5", "change", args(7, 0, 1), 1, 0, 6, 5, 1);
        row(FULL, "8 change: KIND 0 to 6", "change", args(7, 0, 0), 2, 0, 6, 6, 6);
        row(FULL, "8 change: COIN 0 to 7", "change", args(7, 1, 0), 2, 0, 7, 7, 7);
        row(FULL, "8 change: SECOND 0 to 7", "change", args(7, 2, 0), 2, 0, 4, 7, 4);
        row(FULL, "8 change: THING 0 to 5", "change", args(7, 3, 0), 2, 0, 0, 5, 0);
        row(FULL, "8 change: NUMBER 1 to 9", "change", args(7, 4, 0), 2, 1, 7, 9, 7);
        row(FULL, "8 change: COST 0 to 49", "change", args(7, 5, 0), 2, 0, 1, 49, 1);
        row(ROOM, "10 need: a THING 0 to 5", "need", args(1, 2, 3), 0, 0, 5, 5, 5);
        row(ROOM, "10 need: a NUMBER 1 to 40", "need", args(1, 2, 3), 1, 1, 5, 40, 5);
        row(ROOM, "10 need: a WORTH 1 to 99", "need", args(1, 2, 3), 2, 1, 5, 99, 5);
        row(FULL, "11 needOf: six needs", "needOf", args(0, 2), 0, 0, 1, 5, 50);
        row(ROOM, "11 needOf: five needs", "needOf", args(0, 2), 0, 0, 1, 4, 6);
        row(FULL, "11 needOf: what 0 to 2", "needOf", args(1, 0), 1, 0, 0, 2, 99);
    }

    /** In the throw that is laid promises 0, 2 and 8 are kept. */
    private static void laid() {
        row(FULL, "13 lay: 0 to 255", "lay", args(0), 0, 0, 1, 255, 1);
        row(FULL, "15 owes: sets of ten", "owes", args(0), 0, 0, 0, 1023, 59);
        row(ROOM, "15 owes: sets of nine", "owes", args(0), 0, 0, 0, 511, 59);
        row(FULL, "16 brings: sets of ten", "brings", args(0, 0), 0, 0, 0, 1023, 10);
        row(ROOM, "16 brings: sets of nine", "brings", args(0, 0), 0, 0, 0, 511, 10);
        row(FULL, "16 brings: THINGS 0 to 5", "brings", args(1023, 0), 1, 0, 10, 5, 0);
        row(FULL, "17 met: sets of ten", "met", args(0), 0, 0, 0, 1023, 1);
        row(ROOM, "17 met: sets of nine", "met", args(0), 0, 0, 0, 511, 1);
    }

    private static void chances() {
        row(FULL, "18 weight: 0 to 255", "weight", args(0), 0, 0, 0, 255, 0);
        row(FULL, "19 chance: ten promises", "chance", args(0, 1), 0, 0, 2, 9, 1);
        row(ROOM, "19 chance: nine promises", "chance", args(0, 1), 0, 0, 2, 8, 1);
        row(FULL, "19 chance: part 0 and 1", "chance", args(7, 0), 1, 0, 1, 1, 30);
        row(FULL, "20 joint: one", "joint", args(0, 4, 0, 1), 0, 0, 12, 9, 1);
        row(FULL, "20 joint: other", "joint", args(4, 0, 0, 1), 1, 0, 12, 9, 1);
        row(FULL, "20 joint: what 0 to 2", "joint", args(4, 0, 0, 0), 2, 0, 5, 2, 1);
        row(FULL, "20 joint: part 0 and 1", "joint", args(4, 0, 0, 0), 3, 0, 5, 1, 12);
        row(FULL, "21 sure: six needs", "sure", args(0, 1023, 1), 0, 0, 1, 5, 1);
        row(ROOM, "21 sure: five needs", "sure", args(0, 511, 1), 0, 0, 1, 4, 6);
        row(FULL, "21 sure: sets of ten", "sure", args(3, 0, 1), 1, 0, 1, 1023, 9);
        row(FULL, "21 sure: part 0 and 1", "sure", args(3, 1023, 0), 2, 0, 2, 1, 9);
        row(FULL, "22 all: sets of ten", "all", args(0, 1), 0, 0, 1, 1023, 1);
        row(FULL, "22 all: part 0 and 1", "all", args(1023, 0), 1, 0, 0, 1, 1);
        // 0, 49 * 2/9, 5 * 2/3, 7 * 3/4 + 1/4, 4 * 5/6, 3 * 1/6, 40 * 1/6 + 2 * 5/6,
        // 2 * 1/30 + 2 * 29/30, 49, 0: in ninetieths 0, 980, 300, 495, 300, 45, 750, 180, 4410, 0
        row(FULL, "23 mean: sets of ten", "mean", args(0, 0), 0, 0, 0, 1023, 746);
        row(FULL, "23 mean: part 0 and 1", "mean", args(1023, 0), 1, 0, 746, 1, 9);
        // 1 for sure, 10 * 1/6, 20 * 2/9, 6 * 5/6: 1 + 5/3 + 40/9 + 5
        row(FULL, "24 worth: sets of ten", "worth", args(0, 0), 0, 0, 0, 1023, 109);
        row(FULL, "24 worth: part 0 and 1", "worth", args(1023, 0), 1, 0, 109, 1, 9);
        row(FULL, "25 harm: sets of ten", "harm", args(0, 48, 0), 0, 0, 0, 1023, 1);
        row(FULL, "25 harm: so much 0 to 9999", "harm", args(1023, 0, 0), 1, 0, 1, 9999, 0);
        row(FULL, "25 harm: part 0 and 1", "harm", args(2, 0, 0), 2, 0, 2, 1, 9);
        // 5 are kept by 77 in 180, and 4, the next likely, by 11 in 54
        row(FULL, "26 likely: sets of ten", "likely", args(0), 0, 0, 0, 1023, 5);
        row(ROOM, "26 likely: sets of nine", "likely", args(0), 0, 0, 0, 511, 5);
    }

    private static void choices() {
        row(FULL, "27 fewest: six needs", "fewest", args(0, 0, 1), 0, 0, 0, 5, 0);
        row(ROOM, "27 fewest: five needs", "fewest", args(0, 1, 2), 0, 0, 1, 4, 16);
        row(FULL, "27 fewest: a 0 to b", "fewest", args(0, 0, 7), 1, 0, 0, 7, 256);
        row(FULL, "27 fewest: b 1 to 999", "fewest", args(0, 1, 0), 2, 1, 256, 999, 1);
        row(FULL, "27 fewest: b 1 to 999, with a 0", "fewest", args(0, 0, 0), 2, 1, 0, 999, 0);
        row(FULL, "28 cheapest: six needs", "cheapest", args(0, 0, 1), 0, 0, 0, 5, 0);
        row(ROOM, "28 cheapest: five needs", "cheapest", args(0, 1, 2), 0, 0, 1, 4, 16);
        row(FULL, "28 cheapest: a 0 to b", "cheapest", args(0, 0, 7), 1, 0, 0, 7, 256);
        row(FULL, "28 cheapest: b 1 to 999", "cheapest", args(0, 1, 0), 2, 1, 256, 999, 1);
        row(FULL, "28 cheapest: b 1 to 999, with a 0", "cheapest", args(0, 0, 0), 2, 1, 0, 999, 0);
        row(FULL, "29 most: so much 0 to 9999", "most", args(0, 0, 1), 0, 0, 1 + 512, 9999, 1023);
        row(FULL, "29 most: a 0 to b", "most", args(0, 0, 7), 1, 0, 1 + 512, 7, 1023);
        row(FULL, "29 most: b 1 to 999", "most", args(0, 1, 0), 2, 1, 1023, 999, 1 + 512);
        row(FULL, "29 most: b 1 to 999, with a 0", "most", args(0, 0, 0), 2, 1, 1 + 512, 999, 1 + 512);
    }

    private static void coins() {
        row(FULL, "32 hangs: COINS 0 to 7", "hangs", args(0), 0, 0, 1 + 4 + 32 + 64 + 128, 7, 128);
        row(FULL, "33 asks: ten promises", "asks", args(0), 0, 0, 1, 9, 8);
        row(ROOM, "33 asks: nine promises", "asks", args(0), 0, 0, 1, 8, 16);
        row(FULL, "34 apart: one", "apart", args(0, 3), 0, 0, 1, 9, 1);
        row(FULL, "34 apart: other", "apart", args(3, 0), 1, 0, 1, 9, 1);
        row(FULL, "35 tries: six needs", "tries", args(0, 256, 100), 0, 0, 100, 5, 0);
        row(FULL, "35 tries: sets of ten", "tries", args(0, 0, 100), 1, 0, 0, 1023, 100);
        row(FULL, "35 tries: n 1 to 100", "tries", args(0, 256, 1), 2, 1, 1, 100, 100);
    }

    private static void sheets() {
        row(FULL, "37 hold: SPOTS 0 to 9", "hold", args(0, 0), 0, 0, 1, 9, 1);
        row(FULL, "37 hold: ten promises, or nothing (-1)", "hold", args(0, 0), 1, -1, 1, 9, 1);
        row(ROOM, "37 hold: nine promises, or nothing (-1)", "hold", args(0, 0), 1, -1, 1, 8, 1);
        row(FULL, "38 as: SPOTS 0 to 9", "as", args(0, 0), 0, 0, 0, 9, 9);
        row(FULL, "38 as: KINDS 0 to 6", "as", args(7, 0), 1, 0, 7, 6, 7);
        row(FULL, "39 sheet: SHEETS 0 to 3", "sheet", args(0, 8, 5), 0, 0, 5, 3, 5);
        row(FULL, "39 sheet: SHEETS 0 to 3, bits 0", "sheet", args(0, 0, 5), 0, 0, 0, 3, 0);
        bits();
        sizes();
        row(FULL, "40 write: SHEETS 0 and 1 have a number 2, 2 is empty", "write", args(0, 2, 5), 0, 0, 1, 1, 1);
        row(FULL, "40 write: numbers of 40", "write", args(0, 0, 5), 1, 0, 1, 39, 1);
        row(FULL, "40 write: numbers of 3", "write", args(1, 0, 5), 1, 0, 1, 2, 1);
        row(FULL, "41 copy: no such sheet, s", "copy", args(0, 0, 1, 0, 0), 0, 1, 0, 1, 0, Due.KIND, Due.KIND);
        row(FULL, "41 copy: no such sheet, t", "copy", args(1, 0, 0, 0, 0), 2, 1, 0, 1, 0, Due.KIND, Due.KIND);
        row(FULL, "41 copy: from 0 to 39, one number", "copy", args(0, 0, 0, 0, 1), 1, 0, 1, 39, 1);
        row(FULL, "41 copy: from 0 to 40, no number", "copy", args(0, 0, 0, 0, 0), 1, 0, 0, 40, 0);
        row(FULL, "41 copy: to 0 to 39, one number", "copy", args(0, 0, 0, 0, 1), 3, 0, 1, 39, 1);
        row(FULL, "41 copy: to 0 to 40, no number", "copy", args(0, 0, 0, 0, 0), 3, 0, 0, 40, 0);
        row(FULL, "41 copy: n 0 to 40", "copy", args(0, 0, 0, 0, 0), 4, 0, 0, 40, 40);
        row(FULL, "41 copy: n 0 to 10, from 30", "copy", args(0, 30, 0, 0, 0), 4, 0, 0, 10, 10);
        row(FULL, "41 copy: n 0 to 10, to 30", "copy", args(0, 0, 0, 30, 0), 4, 0, 0, 10, 10);
        row(FULL, "42 load: SHEETS, of which 2 is empty, 3 is missing", "load", args(0), 0, 0, 10, 2, 0,
                Due.BEYOND, Due.MISSING);
        row(FULL, "43 judge: SHEETS, of which 2 is empty, 3 is missing", "judge", args(0), 0, 0, 2, 2, 0,
                Due.BEYOND, Due.MISSING);
    }

    /** As the row above, but the first on either side answer findings of their own, and others BEYOND. */
    private static void row(Supplier<PromiseCoins> past, String what, String name, int[] args, int at,
            int least, int ofLeast, int greatest, int ofGreatest, int ahead, int behind) {
        taken(past, what, name, with(args, at, least), ofLeast);
        taken(past, what, name, with(args, at, greatest), ofGreatest);
        for (int v : outside(least, greatest)) {
            int[] bad = with(args, at, v);
            int finding = v == least - 1 ? ahead : v == greatest + 1 ? behind : Due.BEYOND;
            due.at("Promise " + what + ", its findings");
            Twins.refused(due, told(name, bad), past, x -> call(x, name, bad), finding);
        }
    }

    private static void bits() {
        for (int bits : new int[] {8, 16, 32}) {
            taken(FULL, "39 sheet: 8, 16 or 32 bits", "sheet", args(1, bits, 2), 2);
        }
        taken(FULL, "39 sheet: bits 0: MISSING", "sheet", args(1, 0, 2), 0);
        for (int bits : new int[] {-1, 1, 7, 9, 15, 17, 24, 31, 33, 64, -8, -16, -32, 256, 264, Integer.MIN_VALUE,
            Integer.MAX_VALUE}) {
            due.at("Promise 39 sheet, 'BEYOND: no such sheet, other bits'");
            Twins.refused(due, "sheet(1, " + bits + ", 2)", FULL, x -> x.sheet(1, bits, 2), Due.BEYOND);
        }
    }

    private static void sizes() {
        for (int bits : new int[] {0, 8, 16, 32}) {
            taken(FULL, "39 sheet: n 0", "sheet", args(1, bits, 0), 0);
            taken(FULL, "39 sheet: at most 40 numbers", "sheet", args(1, bits, 40), bits == 0 ? 0 : 40);
            for (int n : outside(0, 40)) {
                due.at("Promise 39 sheet, 'SIZE: n is below 0', 'BEYOND: n is above 40 (also with bits 0)'");
                Twins.refused(due, "sheet(1, " + bits + ", " + n + ")", FULL, x -> x.sheet(1, bits, n),
                        n < 0 ? Due.SIZE : Due.BEYOND);
            }
        }
    }

    private static void counts() {
        row(FULL, "47 count: what 0 to 6", "count", args(0), 0, 0, 10, 6, 10);
        row(FULL, "48 status: which -1 to 6", "status", args(0), 0, -1, 0, 6, 0);
    }
}
