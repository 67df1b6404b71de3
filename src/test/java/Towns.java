/**
 * Objects to begin with. made(promises, needs) holds something of everything, so that whatever a call
 * changes can be seen; made(10, 6) is full of promises and needs, made(9, 5) has room for one more of each.
 * Making one takes at most 99 calls.
 */
final class Towns {
    static final int[][] COINS = {{1, 2}, {1, 3}, {2, 3}, {0, 1}, {6, 6}, {5, 6}, {3, 4}, {1, 5}};
    /** 2 * 3 * 3 * 1 * 6 * 6 * 4 * 5. */
    static final int ALL = 12960;
    /** Kind, coin, second, thing, number, cost: each kind, and each least and greatest part, is among them. */
    static final int[][] PROMISES = {
        {0, 0, 0, 0, 1, 0}, {1, 1, 2, 1, 9, 49}, {2, 0, 1, 2, 2, 5}, {3, 6, 6, 3, 3, 7}, {4, 5, 5, 4, 4, 9},
        {5, 0, 2, 5, 5, 3}, {6, 4, 4, 0, 6, 20}, {6, 7, 4, 0, 7, 1}, {0, 4, 4, 0, 9, 49}, {0, 3, 7, 5, 8, 2}};
    /** Thing, number, worth. */
    static final int[][] NEEDS = {{0, 1, 1}, {0, 40, 99}, {5, 5, 10}, {1, 9, 20}, {4, 4, 6}, {2, 3, 50}};
    /** Coins 0, 2 and 4 are heads: promises 0, 2 and 8 are kept. */
    static final int LATEST = 21;
    static final int Z = -987654321;
    static final String TEXT = "coin 3 5 in 6";
    static final int CALLS = 99;

    private Towns() {
    }

    static PromiseCoins made(int promises, int needs) {
        PromiseCoins x = new PromiseCoins();
        keepAnImage(x);
        x.drop();
        for (int i = 0; i < 8; i++) {
            x.coin(i, COINS[i][0], COINS[i][1]);
        }
        for (int i = 0; i < promises; i++) {
            int[] p = PROMISES[i];
            add(x, p);
            x.hold(i, i);
        }
        for (int i = 1; i < needs; i++) {
            x.need(NEEDS[i][0], NEEDS[i][1], NEEDS[i][2]);
        }
        x.lay(LATEST);
        x.seed(Z);
        fillSheets(x);
        feed(x, TEXT);
        return x;
    }

    /** The image differs from what is there later; its one need stays as need 0. */
    private static void keepAnImage(PromiseCoins x) {
        x.coin(0, 5, 6);
        x.promise(3, 2, 4, 8);
        x.need(NEEDS[0][0], NEEDS[0][1], NEEDS[0][2]);
        x.lay(170);
        x.seed(-5);
        x.hold(3, 0);
        x.image();
    }

    /** Sheet 0 has 40 numbers of 16 bits, sheet 1 three of 8 bits, sheet 2 none of 32 bits, 3 is missing. */
    private static void fillSheets(PromiseCoins x) {
        x.sheet(0, 16, 40);
        for (int i = 0; i < 5; i++) {
            x.write(0, i, 45 + i);
        }
        x.copy(0, 0, 0, 5, 5);
        x.copy(0, 0, 0, 10, 10);
        x.copy(0, 0, 0, 21, 19);
        x.sheet(1, 8, 3);
        x.write(1, 0, 7);
        x.write(1, 2, 9);
        x.sheet(2, 32, 0);
    }

    /** A promise of kind, coin, second, thing, number, cost: its number, or a finding. */
    static int add(PromiseCoins x, int... p) {
        int i = x.promise(p[0], p[1], p[3], p[4]);
        if (i >= 0 && p[2] != p[1]) {
            x.change(i, 2, p[2]);
        }
        if (i >= 0 && p[5] != 0) {
            x.change(i, 5, p[5]);
        }
        return i;
    }

    /** Four bytes at once, as long as there are four. */
    static void feed(PromiseCoins x, String text) {
        int i = 0;
        while (i < text.length()) {
            int n = Math.min(4, text.length() - i);
            int bytes = 0;
            for (int k = 0; k < n; k++) {
                bytes = bytes << 8 | text.charAt(i + k) & 255;
            }
            x.feed(bytes, n);
            i += n;
        }
    }

    static int town(PromiseCoins x, String text) {
        feed(x, text);
        return x.town();
    }

    static void coins(PromiseCoins x, int a, int b) {
        for (int i = 0; i < 8; i++) {
            x.coin(i, a, b);
        }
    }
}
