/** Promises 31 to 33: the text. */
public final class TextTest {
    public static void main(String[] args) {
        feed();
        wipe();
        people();
        others();
        tokens();
        faults();
        faultsOfPeople();
        faultChangesNothing();
        swap();
        eleventh();
        longTexts();
        Due.end();
    }

    private static void feed() {
        CoinFountain x = new CoinFountain();
        Due.is("feed n 4", x.feed(('w' << 24) | ('i' << 16) | ('s' << 8) | 'h', 4), 4);
        Due.is("feed n 2, the lowest bytes", x.feed(('x' << 24) | ('y' << 16) | ('e' << 8) | 'r', 2), 6);
        Due.is("count(1)", x.count(1), 6);
        Due.is("square()", x.square(), 1);
        Due.is("KIND", x.of(0, 0), 2);
        Due.is("count(1) then", x.count(1), 0);
        Due.finds("feed n 0", x, Due.BEYOND, () -> x.feed(1, 0));
        Due.finds("feed n 5", x, Due.BEYOND, () -> x.feed(1, 5));
        Due.finds("feed n -1", x, Due.BEYOND, () -> x.feed(1, -1));
        Due.is("feed n 3", x.feed(('z' << 24) | ('l' << 16) | ('a' << 8) | 'w', 3), 3);
        Due.is("feed n 1", x.feed('2', 1), 4);
        Due.is("square()", x.square(), 1);
        Due.is("LAW", x.now(2), 2);
        for (int i = 1; i <= 29; i++) {
            x.feed(0x20202020, 4);
        }
        x.feed(0x202020, 3);
        Due.is("count(1)", x.count(1), 119);
        Due.finds("feed of 2 where 1 has room", x, Due.FULL, () -> x.feed(0, 2));
        Due.finds("feed n 5: BEYOND is asked first", x, Due.BEYOND, () -> x.feed(1, 5));
        Due.is("feed of the 120th", x.feed(' ', 1), 120);
        Due.finds("feed of the 121st", x, Due.FULL, () -> x.feed(0, 1));
        Due.is("square() of blanks", x.square(), -121);
    }

    private static void wipe() {
        CoinFountain x = new CoinFountain();
        Due.feed(x, "law 2");
        Due.is("wipe()", x.wipe(), 5);
        Due.is("count(1)", x.count(1), 0);
        Due.is("wipe() again", x.wipe(), 0);
        Due.is("square() of nothing", x.square(), -1);
        Due.is("LAW", x.now(2), 0);
    }

    private static void people() {
        CoinFountain x = new CoinFountain();
        Due.is("square()", Due.square(x, "person;hoper purse 999;wisher value 99;gentleman guess 99"), 4);
        Due.is("square() behind", Due.square(x, "child purse 0 value 0 guess 0;patron purse 7 guess 8"), 2);
        int[][] due = {{0, 5, 3, 0}, {1, 999, 3, 0}, {2, 5, 99, 0}, {3, 5, 3, 99}, {4, 0, 0, 0}, {5, 7, 3, 8}};
        Due.is("PEOPLE", x.count(0), 6);
        for (int p = 0; p < due.length; p++) {
            for (int what = 0; what < 4; what++) {
                Due.is("of(" + p + ", " + what + ")", x.of(p, what), due[p][what]);
            }
        }
        Due.is("purse and value", Due.square(x, "child purse 1 value 2"), 1);
        Due.is("value and guess", Due.square(x, "child value 3 guess 4"), 1);
        Due.is("VALUE", x.of(6, 2), 2);
        Due.is("GUESS", x.of(7, 3), 4);
    }

    private static void others() {
        CoinFountain x = new CoinFountain();
        Due.is("square()", Due.square(x, "coins 999;law 2;diver lie -20"), 3);
        Due.is("COINS", x.now(1), 999);
        Due.is("LAW", x.now(2), 2);
        Due.is("DIVER", x.now(3), 1);
        Due.is("LIE", x.now(4), -20);
        Due.is("diver lie 20", Due.square(x, "diver lie 20"), 1);
        Due.is("LIE", x.now(4), 20);
        Due.is("diver", Due.square(x, "diver"), 1);
        Due.is("LIE without one", x.now(4), 0);
        Due.is("diver lie -0", Due.square(x, "diver lie 7;diver lie - 0"), 2);
        Due.is("LIE", x.now(4), 0);
        Due.is("silent", Due.square(x, "diver lie 7;silent"), 2);
        Due.is("DIVER", x.now(3), 0);
        Due.is("LIE", x.now(4), 0);
        Due.is("the latest holds", Due.square(x, "coins 1;coins 2;coins 0;law 1;law 0"), 5);
        Due.is("COINS", x.now(1), 0);
        Due.is("LAW", x.now(2), 0);
    }

    private static void tokens() {
        CoinFountain x = new CoinFountain();
        Due.is("without blanks", Due.square(x, "person purse9value8guess7;diver lie-3;coins5"), 3);
        Due.is("PURSE", x.of(0, 1), 9);
        Due.is("VALUE", x.of(0, 2), 8);
        Due.is("GUESS", x.of(0, 3), 7);
        Due.is("LIE", x.now(4), -3);
        Due.is("COINS", x.now(1), 5);
        Due.is("with blanks", Due.square(x, "   law   1  ;  diver  lie  -  4   "), 2);
        Due.is("LIE", x.now(4), -4);
        Due.is("leading zeros", Due.square(x, "coins 00000000000000000012"), 1);
        Due.is("COINS", x.now(1), 12);
        Due.is("words are as long as can be", Due.square(x, "personpurse 4"), -1);
        Due.is("numbers are as long as can be", Due.square(x, "coins 1000"), -7);
        Due.is("numbers are not cut by blanks", Due.square(x, "coins 1 0"), -9);
        Due.is("a number beyond all", Due.square(x, "coins 4294967296"), -7);
        Due.is("a number beyond all longs", Due.square(x, "coins 18446744073709551617"), -7);
        Due.is("great letters", Due.square(x, "law 1;Person"), -7);
        Due.is("a tab is no blank", Due.square(x, "law\t1"), -4);
        Due.is("a byte above 127", Due.square(x, "law " + (char) 233), -5);
        Due.is("a byte 0", Due.square(x, "law 1" + (char) 0), -6);
        Due.is("bytes beside the letters: `", Due.square(x, "silent`"), -7);
        Due.is("bytes beside the letters: {", Due.square(x, "silent{"), -7);
        Due.is("bytes beside the digits: /", Due.square(x, "law 1/"), -6);
        Due.is("bytes beside the digits: colon", Due.square(x, "law 1:"), -6);
    }

    private static void faults() {
        Object[][] due = {
            {"", -1}, {"   ", -4}, {";", -1}, {"-", -1}, {"5", -1}, {"law", -4}, {"law ", -5}, {"law 3", -5}, {"law -1", -5},
            {"law law", -5}, {"law 1 1", -7}, {"law 1;", -7}, {"law 1; ", -8}, {"law 1;;", -7}, {"law 1 law 2", -7},
            {"coins", -6}, {"coins;", -6}, {"coins 1000", -7}, {"coins - 1", -7}, {"coin 1", -1}, {"coinss 1", -1},
            {"diver lie", -10}, {"diver lie -", -12}, {"diver lie 21", -11}, {"diver lie -21", -12}, {"diver lie --1", -12},
            {"diver -1", -7}, {"diver 1", -7}, {"diver lie ;", -11}, {"lie 1", -1}, {"diver lies", -7}, {"diver;lie 3", -7},
            {"silent 1", -8}, {"silent;silen", -8}, {"silent lie 1", -8}, {"purse 4", -1}, {"value 4", -1}, {"guess 4", -1},
            {"swap", -5}, {"swap 0", -6}, {"silent ? law 9", -8}, {"law 9;?", -5},
        };
        for (Object[] one : due) {
            CoinFountain x = new CoinFountain();
            String text = (String) one[0];
            Due.is("square() of '" + text + "'", Due.square(x, text), (Integer) one[1]);
            Due.is("no finding of '" + text + "'", x.status(-1), 0);
        }
    }

    private static void faultsOfPeople() {
        Object[][] due = {
            {"person purse", -13}, {"person purse 1000", -14}, {"person value 100", -14}, {"person guess 100", -14},
            {"person purse -1", -14}, {"person purse;", -13}, {"person value 1 purse 1", -16}, {"person guess 1 value 1", -16},
            {"person guess 1 purse 1", -16}, {"person purse 1 purse 1", -16}, {"person value 1 value 1", -16},
            {"person guess 1 guess 1", -16}, {"person 5", -8}, {"person hoper", -8}, {"person -", -8}, {"person coins 4", -8},
            {"person value", -13}, {"person guess", -13}, {"hoper value 1 guess", -20}, {"people", -1}, {"perso", -1},
            {"person;perso", -8}, {"patron purse 999 value 99 guess 99;child guess 999", -48},
        };
        for (Object[] one : due) {
            CoinFountain x = new CoinFountain();
            String text = (String) one[0];
            Due.is("square() of '" + text + "'", Due.square(x, text), (Integer) one[1]);
            Due.is("nobody by '" + text + "'", x.count(0), 0);
        }
    }

    private static void faultChangesNothing() {
        CoinFountain x = Due.told("wisher purse 8;child;coins 3;diver lie 2;law 1");
        x.hours(2);
        x.coins(4);
        String before = Due.all(x);
        int counted = x.status(-1);
        Due.is("square() with a FAULT at its end", Due.square(x, "patron;coins 9;law 2;swap 0 1;silent;diver;oh"), -44);
        Due.same("all", Due.all(x), before);
        Due.is("no finding", x.status(-1), counted);
        Due.is("square() then", Due.square(x, "patron;swap 0 2"), 2);
        Due.is("KIND", x.of(0, 0), 5);
        Due.is("HOUR stays", x.now(0), 2);
        Due.is("RAN stays", x.now(5), 1);
    }

    private static void swap() {
        CoinFountain x = Due.told("wisher purse 8;child;hoper");
        x.hours(1);
        Due.is("swap 0 2", Due.square(x, "swap 0 2"), 1);
        int[] last = {2, 7, 3, 0, 1, 0, 1};
        for (int what = 0; what < last.length; what++) {
            Due.is("of(2, " + what + ")", x.of(2, what), last[what]);
        }
        Due.is("KIND of 0", x.of(0, 0), 1);
        Due.is("KIND of 1", x.of(1, 0), 4);
        Due.is("swap of the same", Due.square(x, "swap 1 1"), -8);
        Due.is("swap behind the last", Due.square(x, "swap 0 3"), -8);
        Due.is("swap from behind the last", Due.square(x, "swap 3 0"), -6);
        Due.is("swap by a sign", Due.square(x, "swap 0-1"), -7);
        Due.is("swap and one who comes by then", Due.square(x, "patron;swap 3 0"), 2);
        Due.is("KIND of 0", x.of(0, 0), 5);
        Due.is("KIND of 3", x.of(3, 0), 1);
        Due.is("swap before one comes", Due.square(x, "swap 4 0;patron"), -6);
        Due.is("swap 2 1", Due.square(x, "swap 2 1;swap 1 2;swap 2 1"), 3);
        Due.is("KIND of 1", x.of(1, 0), 2);
        Due.is("swap of nobody", Due.square(new CoinFountain(), "swap 0 1"), -6);
        Due.is("swap of one alone", Due.square(Due.told("person"), "swap 0 0"), -8);
    }

    private static void eleventh() {
        CoinFountain x = Due.told("child;child;child;child;child;child;child;child;child");
        Due.is("an 11th", Due.square(x, "law 1;person;  hoper"), -16);
        Due.is("PEOPLE", x.count(0), 9);
        Due.is("LAW", x.now(2), 0);
        Due.is("a 10th", Due.square(x, "person"), 1);
        Due.is("an 11th, whatever is wrong behind it", Due.square(x, "person purse 9999"), -1);
        Due.is("swap of 10", Due.square(x, "swap 9 0"), 1);
        Due.is("swap of an 11th", Due.square(x, "swap 0 10"), -8);
        Due.is("KIND", x.of(0, 0), 0);
    }

    private static void longTexts() {
        CoinFountain x = new CoinFountain();
        String text = "law 1;law 2;law 0;law 1;law 2;law 0;law 1;law 2;law 0;law 1;law 2;law 0;law 1;law 2;law 0;law 1;law 2;law 0;law 1;law  2";
        Due.is("fed", Due.feed(x, text), 120);
        Due.is("square() of 120 bytes", x.square(), 20);
        Due.is("LAW", x.now(2), 2);
        Due.is("fed", Due.feed(x, text.substring(0, 119) + "3"), 120);
        Due.is("square() with a FAULT at its end", x.square(), -120);
        Due.is("fed", Due.feed(x, text.substring(0, 119) + ";"), 120);
        Due.is("square() with a sign at its end", x.square(), -120);
        Due.is("fed", Due.feed(x, " " + text.substring(0, 119)), 120);
        Due.is("square() that ends too early", x.square(), -121);
    }
}
