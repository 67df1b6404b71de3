import java.util.function.Supplier;

/** Promise 4 and Terms 3, the TEXT and its FAULT: each sentence that names a boundary case. */
public final class TextEdgesTest {
    private static final Due due = new Due();
    private static final String[] KINDS = {"promise", "iffed", "either", "back", "freed", "tailed", "chained"};

    public static void main(String[] args) {
        emptyTape();
        fullTape();
        eachNumberOfACoin();
        eachPairOfACoin();
        eachNumberOfAPromise();
        eachNumberOfANeed();
        numbersThatAreTooLong();
        numbersThatWrapAround();
        bytesBesideLettersAndDigits();
        eachLetterAndEachDigit();
        bytesThatBeginNoToken();
        wordsAsLongAsCanBe();
        eachWordOfAKind();
        oneTokenLeftOut();
        oneTokenTwice();
        endsTooEarly();
        separators();
        promisesUpToTen();
        needsUpToSix();
        mostItems();
        itemByItem();
        withAFaultNothingChanges();
        withoutAFaultAllElseStays();
        noFinding();
        due.end();
    }

    private static void fault(String text, int place) {
        PromiseCoins x = new PromiseCoins();
        Towns.feed(x, text);
        due.is("the tape has it: '" + text + "'", x.count(3), text.length());
        due.is("'" + text + "'", x.town(), -1 - place);
        due.is("THE TAPE is empty", x.count(3), 0);
        due.is("no finding", x.status(-1), 0);
    }

    private static PromiseCoins told(String text, int items) {
        PromiseCoins x = new PromiseCoins();
        due.is("'" + text + "'", Towns.town(x, text), items);
        due.is("THE TAPE is empty", x.count(3), 0);
        due.is("no finding", x.status(-1), 0);
        return x;
    }

    private static void emptyTape() {
        due.at("Promise 4: 'how many bytes there are if it ends too early', of an empty TAPE");
        Twins.asked(due, "town() of nothing", PromiseCoins::new, PromiseCoins::town, -1);
        fault(" ", 1);
        fault(" ".repeat(119), 119);
        fault(" ".repeat(120), 120);
        fault(";", 0);
        fault(" ;", 1);
    }

    private static void fullTape() {
        due.at("Terms 3: 'THE TAPE (bytes, at most 120)'");
        told(" ".repeat(112) + "need 0 1", 1);
        told("need 0 1" + " ".repeat(112), 1);
        fault("need" + " ".repeat(114) + "01", 120);
        told("need0" + " ".repeat(114) + "1", 1);
        fault("need 0 1" + " ".repeat(111) + ";", 120);
        fault("need 0 1" + " ".repeat(111) + "!", 119);
        fault("need 0 1" + " ".repeat(111) + "2", 119);
        fault("x".repeat(120), 0);
        fault("5".repeat(120), 0);
        fault(";".repeat(120), 0);
    }

    /** A number of a text: put at the place of the sign #. */
    private static void number(String text, int least, int greatest) {
        int place = text.indexOf('#');
        for (int v = least; v <= greatest; v++) {
            told(text.replace("#", "" + v), 1);
            told(text.replace("#", "00" + v), 1);
        }
        fault(text.replace("#", "" + (greatest + 1)), place);
        fault(text.replace("#", "0" + (greatest + 1)), place);
        for (String bad : new String[] {"-1", "999", "1000", "+" + least, "a", ";"}) {
            fault(text.replace("#", bad), place);
        }
        if (least > 0) {
            fault(text.replace("#", "" + (least - 1)), place);
            fault(text.replace("#", "000"), place);
        }
    }

    private static void eachNumberOfACoin() {
        due.at("Terms 3: 'coin, a NUMBER (0 to 7), a NUMBER a (0 to 6), in, a NUMBER b (1 to 6, a or more)'");
        number("coin # 1 in 3", 0, 7);
        number("coin 7 # in 6", 0, 6);
        number("coin 7 0 in #", 1, 6);
        number("coin 7 1 in #", 1, 6);
        number("coin 7 4 in #", 4, 6);
        number("coin 7 6 in #", 6, 6);
    }

    private static void eachPairOfACoin() {
        due.at("Terms 3: 'b (1 to 6, a or more)'; Promise 4: 'all that it tells is so'");
        for (int a = 0; a <= 6; a++) {
            for (int b = 0; b <= 7; b++) {
                String text = "coin 5 " + a + " in " + b;
                if (b >= 1 && b <= 6 && b >= a) {
                    due.is(text, told(text, 1).coin(5, 1, 2), 10 * a + b);
                } else {
                    fault(text, 12);
                }
            }
        }
        fault("coin 5 7 in 7", 7);
    }

    private static void eachNumberOfAPromise() {
        due.at("Terms 3: 'a NUMBER (0 to 7: COIN), perhaps with and a NUMBER (0 to 7), brings, a NUMBER (0 to 5), "
                + "a NUMBER (1 to 9), perhaps cost and a NUMBER (0 to 49; without it 0)'");
        number("promise # brings 0 1", 0, 7);
        number("back 7 with # brings 0 1", 0, 7);
        number("iffed # with 7 brings 0 1", 0, 7);
        number("freed 0 brings # 9", 0, 5);
        number("tailed 0 brings 5 #", 1, 9);
        number("chained 0 with 0 brings 0 1 cost #", 0, 49);
        number("either 0 brings 0 1 cost #", 0, 49);
        PromiseCoins x = told("back 6 brings 0 1", 1);
        due.is("without it the COIN", x.promiseOf(0, 2), 6);
        due.is("without it 0", x.promiseOf(0, 5), 0);
        PromiseCoins y = told("back 6 with 0 brings 5 9 cost 49", 1);
        due.is("with it", y.promiseOf(0, 2), 0);
        due.is("with it", y.promiseOf(0, 5), 49);
    }

    private static void eachNumberOfANeed() {
        due.at("Terms 3: 'need, a NUMBER (0 to 5), a NUMBER (1 to 40), perhaps worth and a NUMBER (1 to 99; without it 1)'");
        number("need # 1", 0, 5);
        number("need 5 #", 1, 40);
        number("need 5 40 worth #", 1, 99);
        due.is("without it 1", told("need 5 40", 1).needOf(0, 2), 1);
        due.is("the greatest", told("need 5 40 worth 99", 1).needOf(0, 2), 99);
        due.is("the least", told("need 0 1 worth 1", 1).needOf(0, 2), 1);
    }

    private static void numbersThatAreTooLong() {
        due.at("Terms 3: 'NUMBERS (digits, 999 at most)', 'each as long as can be'");
        fault("need 0 1 worth 100", 15);
        fault("need 0 1 worth 999", 15);
        fault("need 0 1 worth 1000", 15);
        fault("need 0 1 worth 9999", 15);
        fault("need 0 1 worth " + "9".repeat(105), 15);
        due.is("noughts ahead do nothing", told("need 0 1 worth " + "0".repeat(103) + "99", 1).needOf(0, 2), 99);
        fault("need 0 1 worth " + "0".repeat(102) + "100", 15);
        fault("coin 01 in 3", 8);
        fault("coin 0 12 in 3", 7);
        fault("coin 11 in 3", 5);
    }

    private static void numbersThatWrapAround() {
        due.at("Terms 3: NUMBERS that would wrap around are not those that they would become");
        String[] ones = {"257", "513", "65537", "1001", "4294967297", "8589934593", "18446744073709551617",
            "340282366920938463463374607431768211457"};
        for (String one : ones) {
            fault("need 0 " + one, 7);
            fault("coin " + one + " 1 in 3", 5);
            fault("promise 0 brings 0 1 cost " + one, 26);
        }
        fault("promise 4294967296 brings 0 1", 8);
        fault("need 0 2147483648", 7);
        fault("need 0 2147483647", 7);
    }

    private static void bytesBesideLettersAndDigits() {
        due.at("Terms 3: 'WORDS (letters a to z), NUMBERS (digits ..), SIGN ;': the bytes just beside these");
        for (char bad : new char[] {'/', ':', '<', '`', '{', 31, 33, '@', 'A', 'Z', '[', 0, 127, 128, 160, 255}) {
            fault(bad + "need 0 1", 0);
            fault("need" + bad + " 0 1", 4);
            fault("need 0" + bad + " 1", 6);
            fault("need 0 1" + bad, 8);
            fault("need 0 1 ;" + bad, 10);
            fault("need 0 1 worth" + bad, 14);
            fault("need 0 1 worth 5" + bad, 16);
        }
    }

    private static void eachLetterAndEachDigit() {
        due.at("Terms 3: 'WORDS (letters a to z), NUMBERS (digits ..)', 'each as long as can be': a to z, 0 to 9");
        for (char letter = 'a'; letter <= 'z'; letter++) {
            fault("coin" + letter + " 0 1 in 3", 0);
            fault(letter + "coin 0 1 in 3", 0);
            fault("coin 0 1 in" + letter + " 3", 9);
            fault("coin 0 1 " + letter + "in 3", 9);
            fault("coin 0 1 in 3" + letter, 13);
            fault("coin 0" + letter + " 1 in 3", 6);
        }
        for (char digit = '0'; digit <= '9'; digit++) {
            fault("coin 0 1 in 3" + digit, 12);
            fault("coin 0 1 in 3 " + digit, 14);
            fault("coin 0 1" + digit + " in 3", 7);
            fault(digit + "coin 0 1 in 3", 0);
        }
    }

    private static void bytesThatBeginNoToken() {
        due.at("Terms 3: FAULT '.. a byte that begins no TOKEN', and the first FAULT alone is told");
        fault("need 6 1 !", 5);
        fault("need ! 6 1", 5);
        fault("coin 0 1 in 3;need 0 1 A", 23);
        fault("coin 0 1 in 3;need 0 41 A", 21);
        fault("coin\t0 1 in 3", 4);
        fault("coin\n0 1 in 3", 4);
        fault("coin\r0 1 in 3", 4);
        fault("coin 0 1 in 3\0", 13);
        fault("coin 0 1 in -3", 12);
        fault("coin 0 1 in 3.", 13);
        fault("coin 0 1,in 3", 8);
    }

    private static void wordsAsLongAsCanBe() {
        due.at("Terms 3: 'TOKENS, each as long as can be': another WORD");
        for (String bad : new String[] {"coi", "coinn", "coincoin", "c", "zcoin", "coinin", "Coin", "coiN", "in", "with",
            "brings", "cost", "worth", "needs", "promised", "backs", "iffedd", "eithe"}) {
            fault(bad + " 0 1 in 3", 0);
        }
        fault("co in 0 1 in 3", 0);
        fault("coin 0 1 i n 3", 9);
        fault("coin 0 1 inn 3", 9);
        fault("coin 0 1 i", 9);
        fault("coin 0 1 brings 3", 9);
        fault("promise 0 bring 0 1", 10);
        fault("promise 0 bringss 0 1", 10);
        fault("promise 0 withs 1 brings 0 1", 10);
        fault("promise 0 wit 1 brings 0 1", 10);
        fault("promise 0 with 1 with 1 brings 0 1", 17);
        fault("promise 0 brings 0 1 costs 1", 21);
        fault("promise 0 brings 0 1 cos 1", 21);
        fault("promise 0 brings 0 1 cost 1 cost 1", 28);
        fault("promise 0 cost 1 brings 0 1", 10);
        fault("need 0 1 worths 1", 9);
        fault("need 0 1 wort 1", 9);
        fault("need 0 1 worth 1 worth 1", 17);
        told("coin0 1in3", 1);
        told("promise0with1brings2 3cost4", 1);
        told("need0 1worth2", 1);
    }

    private static void eachWordOfAKind() {
        due.at("Terms 3: 'promise, iffed, either, back, freed, tailed or chained'");
        for (int kind = 0; kind < 7; kind++) {
            String word = KINDS[kind];
            int n = word.length();
            due.is(word, told(word + " 3 brings 2 1", 1).promiseOf(0, 0), kind);
            fault(word, n);
            fault(word + " ", n + 1);
            fault(word.substring(0, n - 1) + " 3 brings 2 1", 0);
            fault(word + "x 3 brings 2 1", 0);
            fault(word + word + " 3 brings 2 1", 0);
            fault(word + " 8 brings 2 1", n + 1);
            fault(word + " brings 2 1", n + 1);
            fault(word + " 3 3 brings 2 1", n + 3);
        }
    }

    private static void oneTokenLeftOut() {
        due.at("Terms 3: 'the first byte of the first TOKEN that can't stand there', if the one ahead is left out");
        fault("0 1 in 3", 0);
        fault("coin 1 in 3", 7);
        fault("coin 0 1 3", 9);
        fault("coin 0 1 in", 11);
        fault("coin in 3", 5);
        fault("0 1 worth 5", 0);
        fault("need 1 worth 5", 7);
        fault("need worth 5", 5);
        fault("need 0 1 5", 9);
        fault("need 0 1 worth", 14);
        for (String kind : KINDS) {
            int n = kind.length();
            fault(kind + " with 1 brings 2 3 cost 4", n + 1);
            fault(kind + " brings 2 3 cost 4", n + 1);
            fault(kind + " cost 4", n + 1);
            fault(kind + " 0 1 brings 2 3 cost 4", n + 3);
            fault(kind + " 0 with brings 2 3 cost 4", n + 8);
            fault(kind + " 0 with 1 2 3 cost 4", n + 10);
            fault(kind + " 0 with 1 cost 4", n + 10);
            fault(kind + " 0 with 1 brings 3 cost 4", n + 19);
            fault(kind + " 0 with 1 brings cost 4", n + 17);
            fault(kind + " 0 with 1 brings 2 3 4", n + 21);
            fault(kind + " 0 with 1 brings 2 3 cost", n + 25);
        }
    }

    private static void oneTokenTwice() {
        due.at("Terms 3: 'the first byte of the first TOKEN that can't stand there', if one is told twice");
        fault("coin coin 0 1 in 3", 5);
        fault("coin 0 0 1 in 3", 9);
        fault("coin 0 1 in in 3", 12);
        fault("coin 0 1 in 3 3", 14);
        fault("coin 0 1 in 3 in 3", 14);
        fault("need need 0 1", 5);
        fault("need 0 1 1 worth 5", 9);
        fault("need 0 1 worth worth 5", 15);
        fault("need 0 1 worth 5 5", 17);
        for (String kind : KINDS) {
            int n = kind.length();
            fault(kind + " " + kind + " 0 with 1 brings 2 3 cost 4", n + 1);
            fault(kind + " 0 0 with 1 brings 2 3 cost 4", n + 3);
            fault(kind + " 0 with with 1 brings 2 3 cost 4", n + 8);
            fault(kind + " 0 with 1 1 brings 2 3 cost 4", n + 10);
            fault(kind + " 0 with 1 brings brings 2 3 cost 4", n + 17);
            fault(kind + " 0 with 1 brings 2 2 3 cost 4", n + 21);
            fault(kind + " 0 with 1 brings 2 3 cost cost 4", n + 26);
            fault(kind + " 0 with 1 brings 2 3 cost 4 4", n + 28);
            fault(kind + " 0 with 1 brings 2 3 cost 4 with 1", n + 28);
        }
    }

    /** Each beginning of a text that is no text itself ends too early, with blanks behind it and without. */
    private static void endsTooEarly() {
        due.at("Terms 3: 'or how many bytes there are if it ends too early'");
        String[][] texts = {
            {"coin", "0", "1", "in", "3"}, {"need", "0", "1"}, {"need", "0", "1", "worth", "5"},
            {"promise", "0", "brings", "0", "1"}, {"iffed", "0", "with", "1", "brings", "0", "1"},
            {"tailed", "0", "with", "1", "brings", "0", "1", "cost", "7"}};
        for (String[] text : texts) {
            StringBuilder some = new StringBuilder();
            for (int i = 0; i < text.length - 1; i++) {
                some.append(i == 0 ? "" : " ").append(text[i]);
                boolean isWhole = some.toString().equals("need 0 1")
                        || some.toString().equals("tailed 0 with 1 brings 0 1");
                if (!isWhole) {
                    fault(some.toString(), some.length());
                    fault(some + "   ", some.length() + 3);
                    fault(some + ";", some.length());
                    fault(some + " ; ", some.length() + 1);
                    fault("need 0 1;" + some, some.length() + 9);
                }
            }
        }
    }

    private static void separators() {
        due.at("Terms 3: 'TEXT: ITEM { ; ITEM }', 'blanks may stand between'");
        told("need 0 1;need 0 1", 2);
        told("need 0 1 ; need 0 1", 2);
        told("   need   0   1   ;   need   0   1   ", 2);
        fault("need 0 1;", 9);
        fault("need 0 1; ", 10);
        fault("need 0 1;;need 0 1", 9);
        fault("need 0 1; ;need 0 1", 10);
        fault(";need 0 1", 0);
        fault("need 0 1 need 0 1", 9);
        fault("need 0 1 coin 0 1 in 3", 9);
        fault("need;0 1", 4);
        fault("need 0;1", 6);
        fault("need 0 1;5", 9);
    }

    private static PromiseCoins withPromises(int n) {
        PromiseCoins x = new PromiseCoins();
        for (int i = 0; i < n; i++) {
            x.promise(0, 0, 0, 1);
        }
        return x;
    }

    private static void promisesUpToTen() {
        due.at("Terms 3: 'the WORD of an 11th PROMISE .. : its own'");
        for (String word : KINDS) {
            PromiseCoins x = withPromises(9);
            due.is("the 10th", Towns.town(x, word + " 1 brings 1 1"), 1);
            due.is("its number is 9", x.promiseOf(9, 1), 1);
            due.is("an 11th", Towns.town(x, word + " 1 brings 1 1"), -1);
            due.is("an 11th, whatever comes then", Towns.town(x, "  " + word + " 9"), -3);
            due.is("its WORD alone", Towns.town(x, word), -1);
            due.is("ten", x.count(0), 10);
            PromiseCoins y = withPromises(9);
            due.is("the 10th and the 11th", Towns.town(y, "need 0 1;" + word + " 1 brings 1 1; " + word), -1 - word.length() - 24);
            due.is("nothing came", y.count(0), 9);
            due.is("nor a need", y.count(1), 0);
        }
        PromiseCoins x = withPromises(10);
        due.is("another WORD is no PROMISE", Towns.town(x, "coin 0 1 in 3;need 0 1"), 2);
        due.is("a WORD that is none", Towns.town(x, "coin 0 1 in 3;promises"), -15);
        x.drop();
        due.is("room again", Towns.town(x, "back 0 brings 0 1"), 1);
        PromiseCoins two = withPromises(2);
        String eight = "back0brings0 1;".repeat(8).substring(0, 119);
        due.is("eight in one TEXT", Towns.town(two, eight), 8);
        due.is("ten", two.count(0), 10);
        PromiseCoins three = withPromises(3);
        due.is("of eight the last is an 11th", Towns.town(three, eight), -1 - 105);
        due.is("three", three.count(0), 3);
    }

    private static void needsUpToSix() {
        due.at("Terms 3: 'the WORD .. of a 7th NEED: its own'");
        PromiseCoins x = told("need0 1;need1 2;need2 3;need3 4;need4 5;need5 6", 6);
        for (int i = 0; i < 6; i++) {
            due.is("THING", x.needOf(i, 0), i);
            due.is("NUMBER", x.needOf(i, 1), i + 1);
        }
        due.is("a 7th", Towns.town(x, "need 0 1"), -1);
        due.is("a 7th, whatever comes then", Towns.town(x, " need 9 99"), -2);
        due.is("its WORD alone", Towns.town(x, "need"), -1);
        due.is("behind another ITEM", Towns.town(x, "coin 0 1 in 3;need"), -15);
        due.is("no coin came", x.count(5), 256);
        fault("need0 1;need1 2;need2 3;need3 4;need4 5;need5 6;need0 1", 48);
        due.is("a promise has room", Towns.town(x, "back 0 brings 0 1"), 1);
    }

    private static void mostItems() {
        due.at("Promise 4: 'how many ITEMS', as many as 120 bytes tell");
        PromiseCoins x = told("coin0 0in1;".repeat(11).substring(0, 120), 11);
        due.is("of the last", x.coin(0, 1, 2), 1);
        fault("coin0 0in1;".repeat(10) + "coin0 1in0", 119);
        told("coin 0 1 in 3", 1);
    }

    private static void itemByItem() {
        due.at("Promise 4: 'all that it tells is so, item by item'");
        PromiseCoins x = told("coin 1 1 in 2;coin 1 2 in 3;coin 1 5 in 6", 3);
        due.is("the last of a COIN", x.coin(1, 1, 2), 56);
        PromiseCoins y = withPromises(1);
        due.is("behind those that are there", Towns.town(y, "chained 1 brings 2 2;need 2 2;chained 2 brings 2 3"), 3);
        due.is("number 1", y.promiseOf(1, 1), 1);
        due.is("number 2", y.promiseOf(2, 1), 2);
        due.is("number 2 asks for those ahead", y.asks(2), 7);
        PromiseCoins z = new PromiseCoins();
        due.is("one TEXT", Towns.town(z, "need 0 1"), 1);
        due.is("and another", Towns.town(z, "need 0 2"), 1);
        due.is("both are needs", z.count(1), 2);
    }

    private static void withAFaultNothingChanges() {
        due.at("Promise 4: 'With a FAULT: .. nothing changes but that THE TAPE is empty; no finding'");
        String good = "coin 3 2 in 5;back 1 with 2 brings 3 4 cost 5;need 1 2 worth 3";
        for (String bad : new String[] {";", ";coin", ";coin 8", " 7", ";need 0 0", "A", "coin", ";freed 1 brings 6"}) {
            Supplier<PromiseCoins> past = () -> {
                PromiseCoins x = Towns.made(7, 3);
                x.wipe();
                return x;
            };
            PromiseCoins x = past.get();
            Towns.feed(x, good + bad);
            int findings = x.status(-1);
            int answer = x.town();
            due.holds(bad + ": a FAULT behind what is good: " + answer, answer <= -1 - good.length() && answer >= -121);
            due.is("no finding", x.status(-1), findings);
            Twins.same(due, "'" + bad + "'", x, past.get());
        }
        PromiseCoins x = Towns.made(7, 3);
        x.wipe();
        Towns.feed(x, good + ";");
        x.town();
        due.is("what the bad one told does not come with a good one", Towns.town(x, "need 0 7"), 1);
        due.is("promises", x.count(0), 7);
        due.is("needs", x.count(1), 4);
        due.is("the new need", x.needOf(3, 1), 7);
        due.is("the coin", x.coin(3, 1, 2), 1);
    }

    private static void withoutAFaultAllElseStays() {
        due.at("Promise 4: a TEXT without a FAULT changes nothing but what it tells");
        PromiseCoins x = Towns.made(9, 5);
        PromiseCoins y = Towns.made(9, 5);
        x.wipe();
        y.wipe();
        due.is("four items", Towns.town(x, "coin 6 0 in 1;either 1 with 4 brings 2 3 cost 8;need 4 3 worth 2;coin 0 2 in 2"), 4);
        y.coin(6, 0, 1);
        Towns.add(y, 2, 1, 4, 2, 3, 8);
        y.need(4, 3, 2);
        y.coin(0, 2, 2);
        Twins.same(due, "as by calls", x, y);
    }

    private static void noFinding() {
        due.at("Promise 4: '-1 less the FAULT (.. no finding)', from -1 to -121");
        for (int place = 0; place <= 119; place++) {
            PromiseCoins x = new PromiseCoins();
            Towns.feed(x, " ".repeat(place) + "!");
            due.is("at " + place, x.town(), -1 - place);
            due.is("no finding", x.status(-1), 0);
        }
    }
}
