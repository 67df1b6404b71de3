import java.util.ArrayList;
import java.util.List;
import java.util.function.Supplier;
import java.util.function.ToIntFunction;

/**
 * Two objects with the same past, of which one gets one call more: both are asked then for all that they
 * hold, by the face alone. An object is used up by that.
 */
final class Twins {
    private static final String[] NAMES = {"BEYOND", "FULL", "KIND", "NONE", "STATE", "MISSING", "SIZE"};

    private Twins() {
    }

    /** The call answers the finding, that is counted, and nothing else has changed. */
    static void refused(Due due, String call, Supplier<PromiseCoins> past, ToIntFunction<PromiseCoins> act, int finding) {
        PromiseCoins x = past.get();
        PromiseCoins same = past.get();
        due.is(call, act.applyAsInt(x), finding);
        int place = -1000001 - finding;
        due.is(call + ": all findings", x.status(-1), same.status(-1) + 1);
        for (int which = 0; which < 7; which++) {
            due.is(call + ": findings " + NAMES[which], x.status(which), same.status(which) + (which == place ? 1 : 0));
        }
        same(due, call, x, same);
    }

    /** The call answers so, no finding is counted, and nothing has changed. */
    static void asked(Due due, String call, Supplier<PromiseCoins> past, ToIntFunction<PromiseCoins> act, int want) {
        PromiseCoins x = past.get();
        PromiseCoins same = past.get();
        due.is(call, act.applyAsInt(x), want);
        due.is(call + ": no finding", x.status(-1), same.status(-1));
        same(due, call, x, same);
    }

    static void same(Due due, String call, PromiseCoins x, PromiseCoins y) {
        List<Integer> ofX = told(x);
        List<Integer> ofY = told(y);
        due.holds(call + ": nothing has changed:\n  " + ofX + "\n  " + ofY, ofX.equals(ofY));
        due.holds(call + ": within 512 calls", ofX.size() + 10 + Towns.CALLS <= 512);
    }

    /** Each answer is of one call, so there are as many as calls. */
    static List<Integer> told(PromiseCoins x) {
        List<Integer> told = new ArrayList<>();
        present(x, told);
        tape(x, told);
        sheets(x, told);
        told.add(x.undo());
        present(x, told);
        told.add(x.tear());
        return told;
    }

    private static void present(PromiseCoins x, List<Integer> told) {
        for (int what = 0; what < 7; what++) {
            told.add(x.count(what));
        }
        int promises = told.get(told.size() - 7);
        int needs = told.get(told.size() - 6);
        for (int i = 0; i < promises; i++) {
            for (int what = 0; what < 6; what++) {
                told.add(x.promiseOf(i, what));
            }
        }
        for (int i = 0; i < needs; i++) {
            for (int what = 0; what < 3; what++) {
                told.add(x.needOf(i, what));
            }
        }
        for (int spot = 0; spot < 10; spot++) {
            told.add(x.as(spot, 0));
        }
        for (int coin = 0; coin < 8; coin++) {
            told.add(x.coin(coin, 1, 2));
        }
    }

    private static void tape(PromiseCoins x, List<Integer> told) {
        told.add(x.town());
        told.add(x.count(0));
        told.add(x.count(1));
        told.add(x.coin(3, 1, 2));
    }

    private static void sheets(PromiseCoins x, List<Integer> told) {
        for (int s = 0; s < 4; s++) {
            for (int t = s + 1; t < 4; t++) {
                told.add(x.copy(s, 0, t, 0, 0));
            }
        }
        for (int i = 0; i < 10; i++) {
            told.add(x.promise(0, 0, 0, 1));
        }
        for (int s = 0; s < 4; s++) {
            int moved = 0;
            for (int tens = 0; tens < 4 && moved >= 0; tens++) {
                told.add(x.load(s));
                for (int i = 0; i < 10; i++) {
                    told.add(x.promiseOf(i, 5));
                }
                moved = x.copy(s, 10, s, 0, 30);
                told.add(moved);
            }
        }
    }
}
