/** Promises 27 to 36: what to promise, and what comes by which coin. */
public final class ChoicesTest {
    private static final Due due = new Due();

    public static void main(String[] args) {
        fewest();
        cheapest();
        most();
        best();
        helps();
        hangs();
        asks();
        apart();
        tries();
        seed();
        due.end();
    }

    private static void ratiosAreAsked(String what, PromiseCoins x, int call) {
        int[][] bad = {{0, 0}, {-1, 1}, {2, 1}, {0, 1000}, {0, -1}, {1000, 1000}, {1, Integer.MIN_VALUE},
            {Integer.MAX_VALUE, 999}};
        for (int[] b : bad) {
            int got = call == 0 ? x.fewest(0, b[0], b[1]) : call == 1 ? x.cheapest(0, b[0], b[1])
                    : x.most(0, b[0], b[1]);
            due.is(what + " " + b[0] + " in " + b[1], got, Due.BEYOND);
        }
    }

    /** Numbers 2, 2, 4 of thing 0 by coins of 1 in 2; 9 of thing 1 by a sure one. */
    private static PromiseCoins four() {
        PromiseCoins x = new PromiseCoins();
        x.promise(0, 0, 0, 2);
        x.promise(0, 1, 0, 2);
        x.promise(0, 2, 0, 4);
        x.promise(0, 3, 1, 9);
        x.coin(3, 1, 1);
        x.change(0, 5, 3);
        x.change(1, 5, 3);
        x.change(2, 5, 20);
        x.change(3, 5, 5);
        x.need(0, 4, 10);
        x.need(1, 9, 50);
        x.need(2, 1, 1);
        return x;
    }

    private static void fewest() {
        due.at("27 fewest");
        PromiseCoins x = four();
        due.is("a quarter: one does", x.fewest(0, 1, 4), 4);
        due.is("just a half", x.fewest(0, 1, 2), 4);
        due.is("just five eighths", x.fewest(0, 5, 8), 7);
        due.is("a little more", x.fewest(0, 626, 999), Due.NONE);
        due.is("for sure", x.fewest(1, 1, 1), 8);
        due.is("never", x.fewest(2, 1, 999), Due.NONE);
        due.is("nothing is asked", x.fewest(2, 0, 999), 0);
        x.change(1, 4, 4);
        due.is("of several the least", x.fewest(0, 1, 2), 2);
        due.is("no such need", x.fewest(3, 0, 1), Due.BEYOND);
        due.is("no such need", x.fewest(-1, 0, 1), Due.BEYOND);
        ratiosAreAsked("fewest", x, 0);
        due.is("none are counted", x.status(3), 2);
    }

    private static void cheapest() {
        due.at("28 cheapest");
        PromiseCoins x = four();
        due.is("two cheap ones", x.cheapest(0, 1, 4), 3);
        due.is("the dear one", x.cheapest(0, 1, 2), 4);
        due.is("all three", x.cheapest(0, 5, 8), 7);
        due.is("more", x.cheapest(0, 2, 3), Due.NONE);
        due.is("nothing is asked", x.cheapest(2, 0, 1), 0);
        due.is("never", x.cheapest(2, 1, 1), Due.NONE);
        x.change(1, 4, 4);
        x.change(2, 5, 3);
        due.is("of several the least", x.cheapest(0, 1, 2), 2);
        x.change(1, 0, 3);
        due.is("a back one owes more", x.cheapest(0, 1, 2), 4);
        due.is("no such need", x.cheapest(3, 0, 1), Due.BEYOND);
        due.is("no such need", x.cheapest(-1, 0, 1), Due.BEYOND);
        ratiosAreAsked("cheapest", x, 1);
        PromiseCoins y = new PromiseCoins();
        y.promise(0, 0, 0, 1);
        y.promise(0, 0, 0, 1);
        y.need(0, 1, 1);
        due.is("at no cost the least number", y.cheapest(0, 1, 2), 1);
    }

    private static void most() {
        due.at("29 most");
        PromiseCoins x = four();
        due.is("all may owe so much", x.most(31, 0, 1), 15);
        due.is("not for sure", x.most(30, 0, 1), 7);
        due.is("with one in eight", x.most(30, 1, 8), 15);
        due.is("with less", x.most(30, 124, 999), 7);
        due.is("owed surely", x.most(4, 0, 1), 1);
        due.is("nothing", x.most(0, 0, 1), 0);
        due.is("any", x.most(0, 1, 1), 15);
        due.is("beyond", x.most(-1, 0, 1), Due.BEYOND);
        due.is("beyond", x.most(10000, 0, 1), Due.BEYOND);
        due.is("9999", x.most(9999, 0, 999), 15);
        ratiosAreAsked("most", x, 2);
        x.change(0, 0, 3);
        due.is("a broken back one owes 1", x.most(0, 1, 2), 2);
    }

    private static void best() {
        due.at("30 best");
        PromiseCoins x = four();
        due.is("the sure one", x.best(), 8);
        x.change(2, 5, 2);
        due.is("and a cheap one", x.best(), 12);
        x.change(3, 5, 49);
        due.is("a dear one is still worth it", x.best(), 12);
        x.change(3, 0, 6);
        due.is("not twice", x.best(), 4);
        PromiseCoins y = new PromiseCoins();
        due.is("no promises", y.best(), 0);
        y.promise(0, 0, 0, 1);
        y.promise(0, 0, 0, 1);
        due.is("nothing is worth anything", y.best(), 0);
        y.need(0, 1, 7);
        due.is("of several the least", y.best(), 1);
        y.change(0, 5, 7);
        y.change(1, 5, 7);
        due.is("as dear as it is worth", y.best(), 0);
    }

    private static void helps() {
        due.at("31 helps");
        PromiseCoins x = four();
        due.is("the dear one's", x.helps(), 2);
        x.coin(2, 6, 6);
        due.is("all is met then", x.helps(), 0);
        x.coin(2, 0, 6);
        due.is("a coin that never falls heads", x.helps(), 2);
        x.coin(3, 0, 5);
        due.is("the one of the greater need", x.helps(), 3);
        due.is("nothing has changed", x.coin(3, 1, 1), 5);
        PromiseCoins y = new PromiseCoins();
        y.promise(5, 0, 0, 1);
        y.promise(0, 7, 1, 1);
        y.need(0, 1, 9);
        due.is("a tailed one is not helped by its coin", y.helps(), 1);
        y.need(1, 1, 1);
        due.is("the last coin", y.helps(), 7);
        y.coin(7, 3, 3);
        due.is("of several the least", y.helps(), 1);
        PromiseCoins w = new PromiseCoins();
        for (int i = 0; i < 8; i++) {
            w.promise(5, i, 0, 1);
        }
        w.need(0, 8, 1);
        due.is("each coin does harm", w.helps(), 0);
    }

    private static void hangs() {
        due.at("32 hangs");
        PromiseCoins x = new PromiseCoins();
        for (int kind = 0; kind < 7; kind++) {
            x.promise(kind, 2, 0, 1);
            x.change(kind, 2, 5);
        }
        x.coin(2, 0, 1);
        due.is("coin", x.hangs(2), 1 + 2 + 4 + 8 + 16 + 32);
        due.is("second", x.hangs(5), 2 + 4 + 8 + 32);
        due.is("no other", x.hangs(0), 0);
        x.change(5, 0, 0);
        x.change(5, 1, 7);
        due.is("the coin of the one ahead", x.hangs(7), 32 + 64);
        due.is("below", x.hangs(-1), Due.BEYOND);
        due.is("above", x.hangs(8), Due.BEYOND);
    }

    private static void asks() {
        due.at("33 asks");
        PromiseCoins x = new PromiseCoins();
        due.is("no such", x.asks(0), Due.BEYOND);
        x.promise(0, 3, 0, 1);
        x.promise(6, 4, 0, 1);
        x.change(1, 2, 5);
        x.promise(6, 6, 0, 1);
        x.promise(5, 0, 0, 1);
        x.promise(6, 0, 0, 1);
        due.is("promise", x.asks(0), 8);
        due.is("second without need", x.change(0, 2, 7), 3);
        due.is("promise hangs by its coin alone", x.asks(0), 8);
        due.is("chained", x.asks(1), 8 + 16 + 32);
        due.is("chained behind chained", x.asks(2), 8 + 16 + 32 + 64);
        due.is("tailed", x.asks(3), 1);
        due.is("never kept", x.asks(4), 0);
        due.is("below", x.asks(-1), Due.BEYOND);
        due.is("above", x.asks(5), Due.BEYOND);
    }

    private static void apart() {
        due.at("34 apart");
        PromiseCoins x = new PromiseCoins();
        x.coin(0, 1, 3);
        x.promise(0, 0, 0, 1);
        x.promise(0, 1, 0, 1);
        x.promise(2, 0, 0, 1);
        x.change(2, 2, 1);
        due.is("two coins", x.apart(0, 1), 1);
        due.is("a coin of both", x.apart(0, 2), 0);
        due.is("the other way round", x.apart(2, 0), 0);
        x.coin(0, 1, 1);
        due.is("surely kept", x.apart(0, 2), 1);
        x.coin(0, 0, 4);
        due.is("never kept", x.apart(2, 0), 1);
        due.is("one and the same", x.apart(1, 1), Due.BEYOND);
        due.is("above", x.apart(0, 3), Due.BEYOND);
        due.is("above", x.apart(3, 0), Due.BEYOND);
        due.is("below", x.apart(-1, 0), Due.BEYOND);
    }

    private static void tries() {
        due.at("35 tries");
        PromiseCoins x = four();
        PromiseCoins y = four();
        x.lay(9);
        int hits = 0;
        for (int i = 0; i < 100; i++) {
            y.cast();
            hits += y.met(7) & 1;
        }
        due.is("as by cast", x.tries(0, 7, 100), hits);
        due.is("z", x.count(4), y.count(4));
        due.is("latest stays", x.count(2), 9);
        due.is("of a set", x.tries(0, 1, 50), 0);
        due.is("sure", x.tries(1, 8, 1), 1);
        int z = x.count(4);
        int[][] bad = {{3, 0, 1}, {-1, 0, 1}, {0, 16, 1}, {0, -1, 1}, {0, 0, 0}, {0, 0, 101}, {0, 0, -5}};
        for (int[] b : bad) {
            due.is("beyond", x.tries(b[0], b[1], b[2]), Due.BEYOND);
        }
        due.is("nothing was drawn", x.count(4), z);
        PromiseCoins w = four();
        w.tries(1, 8, 2);
        due.is("no latest throw", w.count(2), -1);
    }

    private static void seed() {
        due.at("36 seed");
        PromiseCoins x = new PromiseCoins();
        due.is("at first", x.seed(Due.BEYOND), 1);
        due.is("told as it is", x.count(4), Due.BEYOND);
        due.is("what it was", x.seed(Integer.MIN_VALUE), Due.BEYOND);
        due.is("what it was", x.seed(0), Integer.MIN_VALUE);
        due.is("no finding", x.status(-1), 0);
        x.seed(5);
        x.cast();
        int z = 5;
        for (int i = 0; i < 8; i++) {
            z = z * 1103515245 + 12345;
        }
        due.is("eight draws", x.seed(1), z);
    }
}
