import java.lang.reflect.Method;
import java.util.ArrayList;
import java.util.Arrays;
import java.util.Comparator;
import java.util.List;
import java.util.Random;

/** Runs of 512 drawn calls, each answer held against the model's. The draws are the same every time. */
public final class AgainstModelTest {
    private static final int RUNS = 150;
    private static final int CALLS = 512;
    private static final List<String> DEAR = List.of("fewest", "cheapest", "most", "best");
    private static final int[] WILD = {Integer.MIN_VALUE, Integer.MAX_VALUE, -1, -2, 256, 1024, 1000, 41, 101};

    private final Random random;
    private final PromiseCoins x = new PromiseCoins();
    private final Model model = new Model();
    private final Due due;

    private AgainstModelTest(int run, Due due) {
        random = new Random(run);
        this.due = due;
    }

    public static void main(String[] args) throws Exception {
        Due due = new Due();
        List<Method> face = new ArrayList<>();
        for (Method m : PromiseCoins.class.getDeclaredMethods()) {
            if (java.lang.reflect.Modifier.isPublic(m.getModifiers())) {
                face.add(m);
            }
        }
        face.sort(Comparator.comparing(Method::getName));
        due.is("methods of the face", face.size(), 47);
        for (int run = 0; run < RUNS && due.wrong() < 20; run++) {
            new AgainstModelTest(run, due).go(run, face);
        }
        due.end();
    }

    private void go(int run, List<Method> face) throws Exception {
        int rich = random.nextInt(3);
        int done = rich == 0 ? 0 : fill(rich);
        while (done < CALLS) {
            Method m = face.get(random.nextInt(face.size()));
            if (DEAR.contains(m.getName()) && model.promises.size() > 6 && random.nextInt(4) != 0) {
                continue;
            }
            if ((m.getName().equals("drop") || m.getName().equals("town")) && random.nextInt(3) != 0) {
                continue;
            }
            if (m.getName().equals("feed") && random.nextInt(3) == 0) {
                done += feedText();
                continue;
            }
            due.at("run " + run + " call " + done);
            call(m, arguments(m));
            done++;
        }
    }

    private void call(Method m, Object[] args) throws Exception {
        Method same = Model.class.getDeclaredMethod(m.getName(), m.getParameterTypes());
        int want = (int) same.invoke(model, args);
        due.is(m.getName() + Arrays.toString(args), (int) m.invoke(x, args), want);
    }

    private int call(String name, int... args) throws Exception {
        Class<?>[] types = new Class<?>[args.length];
        Object[] boxed = new Object[args.length];
        for (int i = 0; i < args.length; i++) {
            types[i] = int.class;
            boxed[i] = args[i];
        }
        call(PromiseCoins.class.getMethod(name, types), boxed);
        return 1;
    }

    /** A town of many promises about few coins and things, so that chances hang together. */
    private int fill(int rich) throws Exception {
        int done = 0;
        int coins = 1 + random.nextInt(8);
        int things = 1 + random.nextInt(rich == 1 ? 2 : 6);
        int many = random.nextInt(11);
        for (int i = 0; i < many; i++) {
            done += call("promise", random.nextInt(7), random.nextInt(coins), random.nextInt(things), 1 + random.nextInt(9));
            done += call("change", i, 2, random.nextInt(coins));
            done += call("change", i, 5, random.nextInt(random.nextBoolean() ? 50 : 4));
        }
        for (int i = random.nextInt(7); i > 0; i--) {
            done += call("need", random.nextInt(things), 1 + random.nextInt(random.nextBoolean() ? 40 : 12), 1 + random.nextInt(99));
        }
        for (int i = 0; i < 8; i++) {
            int b = 1 + random.nextInt(6);
            done += call("coin", i, random.nextInt(b + 1), b);
        }
        return done;
    }

    private Object[] arguments(Method m) {
        Object[] args = new Object[m.getParameterCount()];
        boolean spoil = random.nextInt(12) == 0;
        for (int i = 0; i < args.length; i++) {
            args[i] = argument(m.getName(), i);
        }
        if (spoil && args.length > 0) {
            args[random.nextInt(args.length)] = WILD[random.nextInt(WILD.length)];
        }
        if (m.getName().equals("fewest") || m.getName().equals("cheapest") || m.getName().equals("most")) {
            if (!spoil) {
                int b = random.nextBoolean() ? 1 + random.nextInt(12) : 1 + random.nextInt(999);
                args[2] = b;
                args[1] = random.nextInt(b + 1);
            }
        }
        return args;
    }

    private int upTo(int n) {
        return n <= 0 || random.nextInt(25) == 0 ? random.nextInt(12) : random.nextInt(n);
    }

    private int aSet() {
        return upTo(1 << model.promises.size());
    }

    private int argument(String name, int i) {
        int promises = model.promises.size();
        int needs = model.needs.size();
        switch (name + i) {
            case "owes0": case "brings0": case "met0": case "sure1": case "all0": case "mean0": case "worth0":
            case "harm0": case "likely0": case "tries1":
                return aSet();
            case "promiseOf0": case "change0": case "chance0": case "joint0": case "joint1": case "asks0":
            case "apart0": case "apart1":
                return upTo(promises);
            case "hold1":
                return upTo(promises + 1) - 1;
            case "needOf0": case "sure0": case "fewest0": case "cheapest0": case "tries0":
                return upTo(needs);
            case "change1": case "brings1": case "promise2": case "need0":
                return upTo(6);
            case "change2":
                return random.nextInt(3) == 0 ? random.nextInt(52) - 1 : random.nextInt(9) - 1;
            case "promise0": case "as1": case "count0":
                return upTo(7);
            case "promise1": case "coin0": case "hangs0":
                return upTo(8);
            case "coin1": case "coin2":
                return random.nextInt(8);
            case "promise3":
                return random.nextInt(11);
            case "need1": case "tries2":
                return random.nextInt(5) == 0 ? random.nextInt(103) - 1 : 1 + random.nextInt(12);
            case "need2":
                return random.nextInt(102);
            case "lay0": case "weight0":
                return upTo(256);
            case "chance1": case "joint3": case "sure2": case "all1": case "mean1": case "worth1": case "harm2":
                return random.nextInt(20) == 0 ? 2 : random.nextInt(2);
            case "joint2": case "needOf1":
                return random.nextInt(20) == 0 ? 3 : random.nextInt(3);
            case "promiseOf1":
                return random.nextInt(7);
            case "harm1": case "most0":
                return random.nextInt(random.nextInt(10) == 0 ? 10001 : 120);
            case "hold0": case "as0":
                return upTo(10);
            case "sheet0": case "write0": case "copy0": case "copy2": case "load0": case "judge0":
                return random.nextInt(20) == 0 ? 4 : random.nextInt(3);
            case "sheet1":
                return new int[] {0, 8, 16, 32, 8, 16, 24}[random.nextInt(7)];
            case "sheet2":
                return random.nextInt(random.nextBoolean() ? 8 : 45) - 1;
            case "write1": case "copy1": case "copy3": case "copy4":
                return random.nextInt(6) - (random.nextInt(15) == 0 ? 1 : 0);
            case "write2":
                return aNumber();
            case "status0":
                return random.nextInt(10) - 2;
            case "seed0":
                return random.nextInt();
            default:
                return random.nextInt(random.nextBoolean() ? 6 : 300);
        }
    }

    /** Sometimes the very set that is kept in a throw, so that judge() comes beyond the first pair. */
    private int aNumber() {
        switch (random.nextInt(4)) {
            case 0:
                return random.nextInt();
            case 1:
                return random.nextInt(51);
            case 2:
                return model.latest == null ? 0 : model.latest;
            default:
                int set = 0;
                for (Model.Promise q : model.promises) {
                    if (model.latest != null && q.kept(model.latest)) {
                        set |= 1 << q.place;
                    }
                }
                return set;
        }
    }

    private static final String[] WORDS = {"coin", "in", "promise", "iffed", "either", "back", "freed", "tailed",
        "chained", "with", "brings", "cost", "need", "worth", ";", "x", "!", "0", "7", "40", "999", "1000"};

    private int feedText() throws Exception {
        StringBuilder text = new StringBuilder();
        int items = 1 + random.nextInt(4);
        for (int i = 0; i < items; i++) {
            text.append(i == 0 ? "" : blanks(false) + ";" + blanks(false)).append(item());
        }
        if (random.nextInt(3) == 0) {
            int at = random.nextInt(text.length() + 1);
            int to = Math.min(text.length(), at + random.nextInt(3));
            text.replace(at, to, blanks(random.nextBoolean()) + WORDS[random.nextInt(WORDS.length)]);
        }
        if (random.nextInt(8) == 0) {
            text.setLength(random.nextInt(text.length() + 1));
        }
        int done = random.nextInt(3) == 0 ? 0 : call("wipe");
        for (int i = 0; i < text.length(); ) {
            int n = Math.min(4, text.length() - i);
            int bytes = random.nextInt();
            for (int k = 0; k < n; k++) {
                bytes = bytes << 8 | text.charAt(i + k);
            }
            done += call("feed", bytes, n);
            i += n;
        }
        return done + call("town");
    }

    private String blanks(boolean asked) {
        return " ".repeat(random.nextInt(6) == 0 ? 3 : random.nextInt(4) == 0 && !asked ? 0 : 1);
    }

    private int number(int low, int high) {
        return random.nextInt(30) == 0 ? high + 1 : low + random.nextInt(high - low + 1);
    }

    private String item() {
        String s = blanks(true);
        switch (random.nextInt(3)) {
            case 0:
                int b = number(1, 6);
                return "coin" + blanks(false) + number(0, 7) + s + number(0, b) + blanks(false) + "in" + s + b;
            case 1:
                return "need" + s + number(0, 5) + s + number(1, 40)
                        + (random.nextBoolean() ? blanks(false) + "worth" + s + number(1, 99) : "");
            default:
                return WORDS[2 + random.nextInt(7)] + s + number(0, 7)
                        + (random.nextBoolean() ? s + "with" + blanks(false) + number(0, 7) : "")
                        + blanks(false) + "brings" + s + number(0, 5) + s + number(1, 9)
                        + (random.nextBoolean() ? s + "cost" + s + number(0, 49) : "");
        }
    }
}
