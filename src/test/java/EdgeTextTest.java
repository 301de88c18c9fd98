/** The edges that promises 31 to 33 and THE TEXT of a SQUARE name. Each method is one sentence. */
public final class EdgeTextTest {
    public static void main(String[] args) {
        feedLowest();
        feedBeyond();
        feedFull();
        wipeEdges();
        nothingIsLeft();
        everyByteBehindWord();
        everyByteAsNumber();
        everyByteBetweenItems();
        everyByteBeforeNumber();
        asLongAsCanBe();
        numbers();
        blanks();
        items();
        kinds();
        purse();
        value();
        guess();
        inOrder();
        coins();
        law();
        diver();
        silent();
        swap();
        swapByThen();
        otherWord();
        eleventh();
        endsTooEarly();
        firstFault();
        squareItems();
        faultChangesNothing();
        prefixes();
        Due.end();
    }

    /** The answer of square() on a new fountain: how many ITEMS, or -1 less the place of the FAULT. */
    private static void reads(String text, int due) {
        Due.is("square() of '" + text + "'", Due.square(new CoinFountain(), text), due);
    }

    private static void fault(String text, int place) {
        reads(text, -1 - place);
    }

    private static void good(String text) {
        reads(text, 1);
    }

    private static void feedLowest() {
        Due.says("31: THE TAPE gets the n lowest bytes of a number behind it, the highest of these first (n 1 to 4)");
        int[] bytes = {'1', '1' | 'w' << 8, '1' | 'w' << 8 | 'a' << 16, '1' | 'w' << 8 | 'a' << 16 | 'l' << 24};
        for (int n = 1; n <= 4; n++) {
            for (int above : new int[] {0, -1, Integer.MIN_VALUE}) {
                CoinFountain x = new CoinFountain();
                Due.feed(x, "law".substring(0, 4 - n));
                int mask = n == 4 ? -1 : (1 << 8 * n) - 1;
                Due.is("feed n " + n, x.feed(bytes[n - 1] | above & ~mask, n), 4);
                Due.is("square()", x.square(), 1);
                Due.is("LAW", x.now(2), 1);
            }
        }
    }

    private static void feedBeyond() {
        Due.says("31: BEYOND: n");
        CoinFountain x = new CoinFountain();
        Due.findsOutside("feed", x, 1, 4, Due.BEYOND, n -> x.feed('a', n));
        for (int i = 0; i < 30; i++) {
            x.feed(0, 4);
        }
        Due.findsOutside("feed of a full TAPE: BEYOND is asked first", x, 1, 4, Due.BEYOND, n -> x.feed('a', n));
    }

    private static void feedFull() {
        Due.says("31: FULL (bytes, at most 120)");
        for (int n = 1; n <= 4; n++) {
            int m = n;
            CoinFountain x = new CoinFountain();
            for (int i = 0; i < 121 - n; i++) {
                x.feed(' ', 1);
            }
            Due.is("bytes", x.count(1), 121 - n);
            Due.finds("feed of " + n + " where one less has room", x, Due.FULL, () -> x.feed('x', m));
            if (n > 1) {
                Due.is("feed of one less", x.feed(0x202020, n - 1), 120);
            }
            Due.finds("feed of " + n + " to 120", x, Due.FULL, () -> x.feed('x', m));
            Due.is("only blanks came", x.square(), -121);
            Due.is("feed then", x.feed(0x20202020, n), n);
        }
    }

    private static void wipeEdges() {
        Due.says("32: THE TAPE is empty: how many it had");
        CoinFountain x = new CoinFountain();
        Due.is("none", x.wipe(), 0);
        for (int i = 0; i < 30; i++) {
            x.feed(-1, 4);
        }
        Due.is("120", x.wipe(), 120);
        Due.is("bytes", x.count(1), 0);
        Due.is("none again", x.wipe(), 0);
        Due.feed(x, "law 2");
        Due.is("nothing is left of what it had", x.square(), 1);
    }

    private static void nothingIsLeft() {
        Due.says("32, 33: THE TAPE is empty: nothing of what it had is read again");
        String[] before = {"law 11111", "law 1    ", "law 1;;;;", "law 1aaaa", "law 1----", "law 1????"};
        for (String text : before) {
            CoinFountain x = new CoinFountain();
            Due.feed(x, text);
            x.wipe();
            Due.is("behind wipe() of " + text, Due.square(x, "law 1"), 1);
            Due.square(x, text);
            Due.is("behind square() of " + text, Due.square(x, "law 1"), 1);
            Due.square(x, text);
            Due.is("a word behind " + text, Due.square(x, "law 1;silent"), 2);
            Due.square(x, text);
            Due.is("too early behind " + text, Due.square(x, "law "), -5);
        }
        CoinFountain y = new CoinFountain();
        Due.is("bytes", Due.feed(y, "coins " + "0".repeat(111) + "555"), 120);
        Due.is("120 bytes to the last digit", y.square(), 1);
        Due.is("COINS", y.now(1), 555);
    }

    private static boolean isLetter(int b) {
        return "abcdefghijklmnopqrstuvwxyz".indexOf(b) >= 0;
    }

    private static boolean isDigit(int b) {
        return "0123456789".indexOf(b) >= 0;
    }

    private static void everyByteBehindWord() {
        Due.says("WORDS (letters a to z); a byte that begins no TOKEN");
        for (int b = 0; b < 256; b++) {
            String text = "law" + (char) b + "1";
            if (b == ' ' || b == '0') {
                reads(text, 1);
            } else {
                fault(text, isLetter(b) ? 0 : 3);
            }
        }
    }

    private static void everyByteAsNumber() {
        Due.says("NUMBERS (digits)");
        for (int b = 0; b < 256; b++) {
            CoinFountain x = new CoinFountain();
            int answer = Due.square(x, "coins " + (char) b);
            if (isDigit(b)) {
                Due.is("byte " + b, answer, 1);
                Due.is("COINS by byte " + b, x.now(1), b - '0');
            } else {
                Due.is("byte " + b, answer, b == ' ' ? -8 : -7);
            }
        }
    }

    private static void everyByteBetweenItems() {
        Due.says("SIGNS ;");
        for (int b = 0; b < 256; b++) {
            int due = b == ';' ? 2 : isLetter(b) ? -1 : b == ' ' ? -8 : -7;
            reads("silent" + (char) b + "silent", due);
        }
    }

    private static void everyByteBeforeNumber() {
        Due.says("SIGNS -");
        for (int b = 0; b < 256; b++) {
            CoinFountain x = new CoinFountain();
            int answer = Due.square(x, "diver lie" + (char) b + "1");
            boolean isGood = b == '-' || b == ' ' || b == '0' || b == '1';
            Due.is("byte " + b, answer, isGood ? 1 : isLetter(b) ? -7 : -10);
            Due.is("LIE by byte " + b, x.now(4), !isGood ? 0 : b == '-' ? -1 : b == '1' ? 11 : 1);
        }
    }

    private static void asLongAsCanBe() {
        Due.says("TOKENS, each as long as can be");
        fault("lawlaw 1", 0);
        fault("silentsilent", 0);
        fault("personpurse 1", 0);
        fault("lawz1", 0);
        fault("lawa1", 0);
        fault("coins 10000", 6);
        fault("law 11", 4);
        fault("law 10", 4);
        good("law1");
        fault("law1law", 4);
        fault("law1 1", 5);
        fault("law 0 1", 6);
    }

    private static void numbers() {
        Due.says("NUMBERS (999 at most)");
        good("coins 999");
        fault("coins 1000", 6);
        fault("coins 1001", 6);
        fault("coins 9990", 6);
        good("coins 0999");
        fault("coins 01000", 6);
        good("coins 0");
        good("coins 0000000000000000000000000000000000000000000000999");
        // Numbers whose lowest 32 or 64 bits are 0 or 1.
        fault("coins 4294967296", 6);
        fault("coins 4294967297", 6);
        fault("coins 18446744073709551616", 6);
        fault("coins 18446744073709551617", 6);
        fault("coins 99999999999999999999999999999999999999999999", 6);
        fault("person purse 4294967296", 13);
        fault("swap 4294967296 0", 5);
    }

    private static void blanks() {
        Due.says("blanks may stand between");
        good(" law 1");
        good("law 1 ");
        good("    law      1      ");
        reads("law1;law2", 2);
        reads(" law 1 ; law 2 ", 2);
        good("diver lie-1");
        good("diver lie - 1");
        good("person purse1value1guess1");
        fault("la w 1", 0);
        fault("coins 1 2", 8);
        fault("   law 3", 7);
        fault("\tlaw 1", 0);
        fault("law 1\n", 5);
    }

    private static void items() {
        Due.says("TEXT: ITEM { ; ITEM }");
        fault("", 0);
        fault(";", 0);
        fault(" ;", 1);
        fault(";law 1", 0);
        fault("law 1;", 6);
        fault("law 1;;law 1", 6);
        fault("law 1 law 1", 6);
        fault("law 1-law 1", 5);
        fault("1", 0);
        fault("-", 0);
        reads("law1;law1;law1;law1;law1;law1;law1;law1;law1;law1;law1;law1;law1;law1;law1;law1;law1;law1;law1;law1;law1;law1;law1;law1", 24);
    }

    private static void kinds() {
        Due.says("ITEM: the name of a KIND (person hoper wisher gentleman child patron)");
        String[] names = {"person", "hoper", "wisher", "gentleman", "child", "patron"};
        for (int k = 0; k < 6; k++) {
            CoinFountain x = new CoinFountain();
            Due.is(names[k], Due.square(x, names[k]), 1);
            Due.is("KIND of " + names[k], x.of(0, 0), k);
            int last = names[k].length() - 1;
            fault(names[k].substring(0, last), 0);
            fault(names[k].substring(1), 0);
            fault(names[k] + "s", 0);
            for (int i = 0; i <= last; i++) {
                fault(names[k].substring(0, i) + "q" + names[k].substring(i + 1), 0);
            }
        }
    }

    private static void attribute(String word, int what, int most) {
        for (int v : new int[] {0, 1, most - 1, most}) {
            CoinFountain x = new CoinFountain();
            Due.is(word + " " + v, Due.square(x, "child " + word + " " + v), 1);
            Due.is(word, x.of(0, what), v);
        }
        fault("child " + word + " " + (most + 1), 12);
        fault("child " + word, 11);
        fault("child " + word + " ", 12);
        fault("child " + word + ";", 11);
        fault("child " + word + " -1", 12);
        fault("child " + word + " x", 12);
        fault("child " + word + "s 1", 6);
        fault("child q" + word.substring(1) + " 1", 6);
        fault("child " + word + " 1 " + word + " 1", 14);
        fault("child " + word + " 1 1", 14);
        fault(word + " 1", 0);
    }

    private static void purse() {
        Due.says("perhaps purse and a NUMBER (0 to 999)");
        attribute("purse", 1, 999);
    }

    private static void value() {
        Due.says("perhaps value and a NUMBER (0 to 99)");
        attribute("value", 2, 99);
    }

    private static void guess() {
        Due.says("perhaps guess and a NUMBER (0 to 99): a new one at the end of THE ROW");
        attribute("guess", 3, 99);
        CoinFountain x = Due.crowd(1, 4);
        Due.is("behind others", Due.square(x, "child;wisher"), 2);
        Due.is("KIND at 4", x.of(4, 0), 4);
        Due.is("KIND at 5", x.of(5, 0), 2);
    }

    private static void inOrder() {
        Due.says("perhaps purse .., perhaps value .., perhaps guess ..");
        String[] words = {"", "", ""};
        for (int set = 0; set < 8; set++) {
            CoinFountain x = new CoinFountain();
            words[0] = (set & 1) == 0 ? "" : " purse 7";
            words[1] = (set & 2) == 0 ? "" : " value 8";
            words[2] = (set & 4) == 0 ? "" : " guess 9";
            Due.is("set " + set, Due.square(x, "wisher" + words[0] + words[1] + words[2]), 1);
            Due.is("PURSE", x.of(0, 1), (set & 1) == 0 ? 5 : 7);
            Due.is("VALUE", x.of(0, 2), (set & 2) == 0 ? 3 : 8);
            Due.is("GUESS", x.of(0, 3), (set & 4) == 0 ? 0 : 9);
        }
        fault("wisher value 1 purse 1", 15);
        fault("wisher guess 1 purse 1", 15);
        fault("wisher guess 1 value 1", 15);
        fault("wisher purse 1 guess 1 value 1", 23);
        fault("wisher purse value 1", 13);
    }

    private static void coins() {
        Due.says("coins and a NUMBER (0 to 999)");
        for (int v : new int[] {0, 1, 998, 999}) {
            CoinFountain x = Due.told("coins 5");
            Due.is("coins " + v, Due.square(x, "coins " + v), 1);
            Due.is("COINS", x.now(1), v);
        }
        fault("coins 1000", 6);
        fault("coins -1", 6);
        fault("coins", 5);
        fault("coins;", 5);
        fault("coins coins", 6);
        fault("coin 1", 0);
        fault("qoins 1", 0);
    }

    private static void law() {
        Due.says("law and a NUMBER (0 to 2)");
        for (int v = 0; v <= 2; v++) {
            CoinFountain x = Due.told("law 1");
            Due.is("law " + v, Due.square(x, "law " + v), 1);
            Due.is("LAW", x.now(2), v);
        }
        fault("law 3", 4);
        fault("law -1", 4);
        fault("law", 3);
        fault("law;", 3);
        fault("qaw 1", 0);
    }

    private static void diver() {
        Due.says("diver, perhaps lie and, behind - or not, a NUMBER (0 to 20): one who speaks (below 0 behind -; without one 0)");
        for (int v : new int[] {-20, -19, -1, 0, 1, 19, 20}) {
            CoinFountain x = new CoinFountain();
            Due.is("diver lie " + v, Due.square(x, "diver lie " + v), 1);
            Due.is("LIE", x.now(4), v);
            Due.is("one speaks", x.now(3), 1);
            Due.is("diver", Due.square(x, "diver"), 1);
            Due.is("LIE without one", x.now(4), 0);
            Due.is("one speaks", x.now(3), 1);
        }
        good("diver lie -0");
        fault("diver lie 21", 10);
        fault("diver lie -21", 11);
        fault("diver lie", 9);
        fault("diver lie ", 10);
        fault("diver lie -", 11);
        fault("diver lie - ", 12);
        fault("diver lie --1", 11);
        fault("diver lie 1-", 11);
        fault("diver lie 1 1", 12);
        fault("diver lie;", 9);
        fault("diver lie -;", 11);
        fault("diver 1", 6);
        fault("diver -1", 6);
        fault("diver qie 1", 6);
        fault("qiver", 0);
        fault("lie 1", 0);
    }

    private static void silent() {
        Due.says("silent: no DIVER");
        CoinFountain x = Due.told("diver lie -7");
        Due.is("silent", Due.square(x, "silent"), 1);
        Due.is("none speaks", x.now(3), 0);
        Due.is("LIE", x.now(4), 0);
        Due.is("silent where none speaks", Due.square(x, "silent"), 1);
        fault("silent 1", 7);
        fault("silent lie 1", 7);
        fault("qilent", 0);
    }

    private static void swap() {
        Due.says("swap, a NUMBER (a PLACE where one stands by then), a NUMBER (another such PLACE): these two change PLACES");
        for (int a = 0; a < 10; a++) {
            for (int b = 0; b < 10; b++) {
                CoinFountain x = Due.crowd(1, 10);
                for (int p = 0; p < 10; p++) {
                    x.set(p, 1, 100 + p);
                }
                Due.is("swap " + a + " " + b, Due.square(x, "swap " + a + " " + b), a == b ? -8 : 1);
                for (int p = 0; p < 10; p++) {
                    Due.is("at " + p, x.of(p, 1), 100 + (p == a ? b : p == b ? a : p));
                }
            }
        }
        CoinFountain y = Due.crowd(1, 10);
        Due.is("swap 10 0", Due.square(y, "swap 10 0"), -6);
        Due.is("swap 0 10", Due.square(y, "swap 0 10"), -8);
        Due.is("swap -1 0", Due.square(y, "swap -1 0"), -6);
        Due.is("swap 0 -1", Due.square(y, "swap 0 -1"), -8);
        Due.is("swap", Due.square(y, "swap"), -5);
        Due.is("swap 0", Due.square(y, "swap 0"), -7);
        Due.is("swap 0 ", Due.square(y, "swap 0 "), -8);
        Due.is("swap 0 1 2", Due.square(y, "swap 0 1 2"), -10);
        Due.is("swap 0;1", Due.square(y, "swap 0;1"), -7);
        Due.is("swap 01 00", Due.square(y, "swap 01 00"), 1);
        Due.is("qwap 0 1", Due.square(y, "qwap 0 1"), -1);
    }

    private static void swapByThen() {
        Due.says("(a PLACE where one stands by then)");
        fault("swap 0 1", 5);
        fault("swap 0 0", 5);
        fault("person;swap 0 1", 14);
        fault("person;swap 0 0", 14);
        fault("person;swap 1 0", 12);
        reads("person;hoper;swap 0 1", 3);
        fault("person;swap 0 1;hoper", 14);
        CoinFountain x = Due.told("person;hoper;swap 0 1;wisher;swap 2 0");
        int[] kinds = {2, 0, 1};
        for (int p = 0; p < 3; p++) {
            Due.is("KIND at " + p, x.of(p, 0), kinds[p]);
        }
        x.leave(2);
        Due.is("not of one who left", Due.square(x, "swap 0 2"), -8);
    }

    private static void otherWord() {
        Due.says("FAULT: another WORD");
        for (String word : new String[] {"a", "z", "purse", "value", "guess", "lie", "people", "fountain", "pers", "personperson"}) {
            fault(word, 0);
            fault("law 1;" + word, 6);
            fault("law 1 " + word, 6);
            fault("child " + word, word.equals("purse") || word.equals("value") || word.equals("guess") ? 11 : 6);
        }
    }

    private static void eleventh() {
        Due.says("FAULT: the name of a KIND for an 11th: its own");
        CoinFountain x = Due.crowd(1, 9);
        Due.is("a 10th", Due.square(x, "child"), 1);
        for (String name : new String[] {"person", "hoper", "wisher", "gentleman", "child", "patron"}) {
            Due.is("an 11th", Due.square(x, name), -1);
            Due.is("an 11th behind", Due.square(x, "law 1 ; " + name + " purse 9999"), -9);
        }
        Due.is("LAW", x.now(2), 0);
        Due.is("PEOPLE", x.count(0), 10);
        Due.is("others may come", Due.square(x, "law 1;coins 5;silent;diver;swap 0 9"), 5);
        x.leave(3);
        Due.is("two where one has room", Due.square(x, "child;hoper"), -7);
        Due.is("PEOPLE", x.count(0), 9);
        Due.is("one where one has room", Due.square(x, "hoper"), 1);
    }

    private static void endsTooEarly() {
        Due.says("FAULT: how many bytes there are if it ends too early");
        String[] early = {"", " ", "law", "law ", "law   ", "coins", "law 1;", "law 1;  ", "child purse", "child purse 1 value", "diver lie",
            "diver lie -", "diver lie -  ", "law 1;coins"};
        for (String text : early) {
            fault(text, text.length());
        }
        CoinFountain x = Due.crowd(1, 2);
        Due.is("swap", Due.square(x, "swap"), -5);
        Due.is("swap 1", Due.square(x, "swap 1"), -7);
        for (int i = 0; i < 117; i++) {
            x.feed(' ', 1);
        }
        x.feed('l' << 16 | 'a' << 8 | 'w', 3);
        Due.is("of 120 bytes", x.square(), -121);
    }

    private static void firstFault() {
        Due.says("FAULT: the first TOKEN that can't stand there");
        fault("law 3;law 4", 4);
        fault("law 1;law 4;?", 10);
        fault("? law 4", 0);
        fault("law ?;law 4", 4);
        fault("person purse 1000 value 100", 13);
        fault("coins 1000;swap 0 0", 6);
    }

    private static void squareItems() {
        Due.says("33: THE TAPE is THE TEXT of a SQUARE, and empty then: how many ITEMS");
        CoinFountain x = new CoinFountain();
        Due.is("3", Due.square(x, "law 1;coins 3;child"), 3);
        Due.is("bytes", x.count(1), 0);
        Due.is("once more: it is empty", x.square(), -1);
        Due.is("LAW stays", x.now(2), 1);
        Due.is("what isn't told stays", Due.square(x, "law 2"), 1);
        Due.is("COINS", x.now(1), 3);
        Due.is("PEOPLE", x.count(0), 1);
    }

    private static void faultChangesNothing() {
        Due.says("33: With a FAULT: -1 less its place (nothing changes but that THE TAPE is empty; no finding)");
        CoinFountain x = Due.told("wisher purse 9;child;coins 4;law 1;diver lie 6");
        x.hours(1);
        x.coins(8);
        x.image();
        x.sheet(0, 8, 1);
        x.write(0, 0, 5);
        x.person(9);
        String before = Due.all(x);
        String[] texts = {"patron;coins 9;law 2;swap 0 1;silent;diver;oh", "silent;coins 1000", "diver lie 3;law 3", "child purse 1 value 100",
            "swap 0 1;swap 0 1;swap 0 2", "coins 7;"};
        for (String text : texts) {
            Due.holds("FAULT in " + text, Due.square(x, text) < 0);
            Due.same("all", Due.all(x), before);
            Due.is("bytes", x.count(1), 0);
            Due.is("no finding", x.status(-1), 1);
            Due.is("the sheet", x.write(0, 0, 5), 5);
        }
        x.leave(0);
        Due.is("the image", x.undo(), 2);
        Due.same("all of the image", Due.all(x), before);
    }

    /** Texts cut at each byte, and with each byte changed, read as the second telling of the document reads them. */
    private static void prefixes() {
        Due.says("THE TEXT of a SQUARE, cut or changed at each byte");
        String[] texts = {
            "person purse 999 value 99 guess 9;hoper purse 12;wisher value 34;gentleman guess 56;child;patron; coins 999; law 2",
            "diver lie -20; silent; diver lie 7 ;child ;hoper; swap 0 1 ; swap 10 1; law 0;diver",
            "child;child;child;child;child;child;child;child;child;child;swap 9 0;coins1;hoper;law 1",
        };
        for (String text : texts) {
            for (int i = 0; i <= text.length(); i++) {
                asModel(text.substring(0, i));
                for (char c : "; -019azq?\t".toCharArray()) {
                    if (i < text.length()) {
                        asModel(text.substring(0, i) + c + text.substring(i + 1));
                    }
                    if (text.length() < 120) {
                        asModel(text.substring(0, i) + c + text.substring(i));
                    }
                }
            }
        }
    }

    private static void asModel(String text) {
        CoinFountain x = new CoinFountain();
        Model model = new Model();
        Due.feed(x, text);
        for (char c : text.toCharArray()) {
            model.call("feed", new long[] {c, 1});
        }
        Due.is("square() of '" + text + "'", x.square(), model.call("square", new long[0]));
        Due.is("PEOPLE of '" + text + "'", x.count(0), model.w.row().size());
    }
}
