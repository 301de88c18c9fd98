/** Promises 1 to 11: a new object, the row. */
public final class RowTest {
    public static void main(String[] args) {
        newObject();
        person();
        of();
        wouldThrow();
        set();
        turn();
        as();
        move();
        leave();
        coins();
        law();
        diver();
        Due.end();
    }

    private static void newObject() {
        CoinFountain x = new CoinFountain();
        for (int what = 0; what <= 3; what++) {
            Due.is("new: count(" + what + ")", x.count(what), 0);
        }
        for (int what = 0; what <= 8; what++) {
            Due.is("new: now(" + what + ")", x.now(what), 0);
        }
        for (int which = -1; which <= 6; which++) {
            Due.is("new: status(" + which + ")", x.status(which), 0);
        }
        Due.is("new: wipe()", x.wipe(), 0);
        Due.is("new: tear()", x.tear(), 0);
        Due.is("new: undo()", x.undo(), Due.NONE);
        for (int s = 0; s < 4; s++) {
            Due.is("new: write(" + s + ", 0, 1)", x.write(s, 0, 1L), Due.MISSING);
        }
        CoinFountain other = new CoinFountain();
        x.person(0);
        Due.is("new: another object has its own row", other.count(0), 0);
    }

    private static void person() {
        CoinFountain x = new CoinFountain();
        Due.finds("person(-1)", x, Due.BEYOND, () -> x.person(-1));
        Due.finds("person(6)", x, Due.BEYOND, () -> x.person(6));
        for (int i = 0; i < 10; i++) {
            Due.is("person at " + i, x.person(i % 6), i);
            Due.is("KIND at " + i, x.of(i, 0), i % 6);
        }
        Due.finds("person(0) for an 11th", x, Due.FULL, () -> x.person(0));
        Due.finds("person(6) for an 11th: BEYOND is asked first", x, Due.BEYOND, () -> x.person(6));
        x.leave(9);
        Due.is("person(5) when there is room again", x.person(5), 9);
    }

    private static void of() {
        CoinFountain x = new CoinFountain();
        Due.finds("of(0, 0) of nobody", x, Due.BEYOND, () -> x.of(0, 0));
        x.person(3);
        int[] first = {3, 5, 3, 0, 0, 0, 0, 0, 1, 1};
        for (int what = 0; what < 10; what++) {
            Due.is("at first of(0, " + what + ")", x.of(0, what), first[what]);
        }
        Due.finds("of(-1, 0)", x, Due.BEYOND, () -> x.of(-1, 0));
        Due.finds("of(1, 0)", x, Due.BEYOND, () -> x.of(1, 0));
        Due.finds("of(0, -1)", x, Due.BEYOND, () -> x.of(0, -1));
        Due.finds("of(0, 10)", x, Due.BEYOND, () -> x.of(0, 10));
        x.hours(2);
        Due.is("THREW", x.of(0, 4), 1);
        Due.is("PAILS", x.of(0, 5), 2);
        Due.is("DRY", x.of(0, 6), 0);
        x.turn(0, 1);
        x.hours(3);
        Due.is("DRY of a hoper", x.of(0, 6), 3);
        Due.is("THREW of a hoper", x.of(0, 4), 0);
        thinks();
    }

    private static void thinks() {
        CoinFountain x = Due.told("hoper guess 7;hoper;hoper;hoper;hoper;hoper;hoper;hoper guess 6");
        Due.is("THINKS by GUESS", x.of(0, 7), 7);
        Due.is("SHORT of 0 by GUESS 7", x.of(0, 8), 0);
        Due.is("SHORT of 1 by GUESS 0", x.of(1, 8), 2);
        Due.is("SHORT of 7 by GUESS 6", x.of(7, 8), 2);
        x.coins(4);
        Due.is("THINKS by GUESS, not by COINS", x.of(1, 7), 0);
        x.diver(true, 2);
        Due.is("THINKS by DIVER", x.of(0, 7), 6);
        Due.is("SHORT of 7 by DIVER", x.of(7, 8), 2);
        x.diver(true, -4);
        Due.is("THINKS 0", x.of(0, 7), 0);
        x.diver(true, -5);
        Due.is("THINKS 0 at least", x.of(0, 7), 0);
        x.coins(999);
        x.diver(true, 20);
        Due.is("THINKS has no most", x.of(0, 7), 1019);
        Due.is("SHORT 0 at least", x.of(7, 8), 0);
    }

    private static void wouldThrow() {
        CoinFountain x = Due.told("person;person;person guess 2;person guess 4;gentleman value 5;gentleman value 5;wisher;patron;child");
        int[] due = {1, 0, 1, 0, 5, 0, 1, 5, 0};
        for (int p = 0; p < due.length; p++) {
            Due.is("WOULD THROW at " + p, x.of(p, 9), due[p]);
        }
        x.set(7, 1, 999);
        Due.is("PATRON of a full purse, for the last PLACE", x.of(7, 9), 9);
        x.set(7, 3, 8);
        Due.is("PATRON, GUESS 8 of 9", x.of(7, 9), 1);
        x.set(7, 3, 9);
        Due.is("PATRON, GUESS 9 of 9", x.of(7, 9), 0);
        x.set(4, 1, 3);
        Due.is("GENTLEMAN, no more than the PURSE", x.of(4, 9), 3);
        x.set(6, 1, 0);
        Due.is("WISHER without a coin", x.of(6, 9), 0);
        x.set(0, 2, 0);
        Due.is("PERSON of VALUE 0", x.of(0, 9), 0);
        x.set(0, 2, 1);
        Due.is("PERSON of VALUE 1", x.of(0, 9), 1);
        x.set(0, 1, 0);
        Due.is("PERSON without a coin", x.of(0, 9), 0);
        x.coins(1);
        x.set(8, 1, 0);
        Due.is("CHILD without a coin fishes", x.of(8, 9), -1);
        x.diver(true, -20);
        Due.is("CHILD fishes by COINS, whatever the DIVER says", x.of(8, 9), -1);
    }

    private static void set() {
        CoinFountain x = Due.told("person;wisher");
        int[] was = {0, 5, 3, 0};
        int[] most = {0, 999, 99, 99};
        for (int what = 1; what <= 3; what++) {
            int w = what;
            Due.is("set to the most, " + w, x.set(1, w, most[w]), was[w]);
            Due.is("it is, " + w, x.of(1, w), most[w]);
            Due.is("not of the other, " + w, x.of(0, w), was[w]);
            Due.finds("set above, " + w, x, Due.BEYOND, () -> x.set(1, w, most[w] + 1));
            Due.finds("set below 0, " + w, x, Due.BEYOND, () -> x.set(1, w, -1));
            Due.is("set to 0, " + w, x.set(1, w, 0), most[w]);
        }
        Due.finds("set(2, 1, 0)", x, Due.BEYOND, () -> x.set(2, 1, 0));
        Due.finds("set(-1, 1, 0)", x, Due.BEYOND, () -> x.set(-1, 1, 0));
        Due.finds("set(0, 0, 1)", x, Due.BEYOND, () -> x.set(0, 0, 1));
        Due.finds("set(0, 4, 1)", x, Due.BEYOND, () -> x.set(0, 4, 1));
    }

    private static void turn() {
        CoinFountain x = Due.told("person;wisher purse 9");
        x.hours(1);
        Due.is("turn(1, 5)", x.turn(1, 5), 2);
        Due.is("KIND", x.of(1, 0), 5);
        Due.is("PURSE stays", x.of(1, 1), 8);
        Due.is("THREW stays", x.of(1, 4), 1);
        Due.is("PAILS stay", x.of(1, 5), 1);
        Due.is("turn(1, 0)", x.turn(1, 0), 5);
        Due.finds("turn(2, 0)", x, Due.BEYOND, () -> x.turn(2, 0));
        Due.finds("turn(-1, 0)", x, Due.BEYOND, () -> x.turn(-1, 0));
        Due.finds("turn(0, 6)", x, Due.BEYOND, () -> x.turn(0, 6));
        Due.finds("turn(0, -1)", x, Due.BEYOND, () -> x.turn(0, -1));
    }

    private static void as() {
        CoinFountain x = Due.told("person value 10;hoper value 11;wisher value 12;gentleman value 13;child value 14;patron value 15");
        int[] sets = {1, 1 | 2, 1 | 4, 1 | 8, 1 | 2 | 16, 1 | 8 | 32};
        for (int p = 0; p < 6; p++) {
            for (int k = 0; k < 6; k++) {
                int place = p;
                int kind = k;
                if ((sets[p] >> k & 1) == 1) {
                    Due.is("as(" + p + ", " + k + ")", x.as(p, k), 10 + p);
                } else {
                    Due.finds("as(" + p + ", " + k + ")", x, Due.KIND, () -> x.as(place, kind));
                }
            }
        }
        Due.finds("as(6, 0)", x, Due.BEYOND, () -> x.as(6, 0));
        Due.finds("as(-1, 0)", x, Due.BEYOND, () -> x.as(-1, 0));
        Due.finds("as(0, 6)", x, Due.BEYOND, () -> x.as(0, 6));
        Due.finds("as(0, -1)", x, Due.BEYOND, () -> x.as(0, -1));
    }

    private static String purses(CoinFountain x) {
        StringBuilder seen = new StringBuilder();
        for (int p = 0; p < x.count(0); p++) {
            seen.append(x.of(p, 1)).append(' ');
        }
        return seen.toString();
    }

    private static void move() {
        CoinFountain x = Due.told("hoper purse 10;hoper purse 11;hoper purse 12;hoper purse 13;wisher purse 14");
        x.hours(1);
        Due.is("move(1, 3)", x.move(1, 3), 2);
        Due.same("row", purses(x), "10 12 13 11 13 ");
        Due.is("move(4, 0)", x.move(4, 0), 4);
        Due.same("row", purses(x), "13 10 12 13 11 ");
        Due.is("KIND goes along", x.of(0, 0), 2);
        Due.is("THREW goes along", x.of(0, 4), 1);
        Due.is("DRY goes along", x.of(0, 6), 1);
        Due.is("PAILS go along", x.of(1, 5), 1);
        Due.is("move(2, 2)", x.move(2, 2), 0);
        Due.same("row", purses(x), "13 10 12 13 11 ");
        Due.finds("move(5, 0)", x, Due.BEYOND, () -> x.move(5, 0));
        Due.finds("move(0, 5)", x, Due.BEYOND, () -> x.move(0, 5));
        Due.finds("move(-1, 0)", x, Due.BEYOND, () -> x.move(-1, 0));
        Due.finds("move(0, -1)", x, Due.BEYOND, () -> x.move(0, -1));
    }

    private static void leave() {
        CoinFountain x = Due.told("wisher purse 10;hoper purse 11;hoper purse 12");
        x.hours(3);
        Due.is("leave(0)", x.leave(0), 3);
        Due.same("row", purses(x), "11 12 ");
        Due.is("leave(1)", x.leave(1), 0);
        Due.same("row", purses(x), "11 ");
        Due.finds("leave(1)", x, Due.BEYOND, () -> x.leave(1));
        Due.finds("leave(-1)", x, Due.BEYOND, () -> x.leave(-1));
        Due.is("person behind one who left", x.person(2), 1);
        int[] first = {2, 5, 3, 0, 0, 0, 0};
        for (int what = 0; what < first.length; what++) {
            Due.is("a new one has nothing of one who left, " + what, x.of(1, what), first[what]);
        }
        x.leave(0);
        x.leave(0);
        Due.finds("leave(0) of nobody", x, Due.BEYOND, () -> x.leave(0));
    }

    private static void coins() {
        CoinFountain x = new CoinFountain();
        Due.is("coins(999)", x.coins(999), 0);
        Due.is("COINS", x.now(1), 999);
        Due.finds("coins(1000)", x, Due.BEYOND, () -> x.coins(1000));
        Due.finds("coins(-1)", x, Due.BEYOND, () -> x.coins(-1));
        Due.is("coins(0)", x.coins(0), 999);
    }

    private static void law() {
        CoinFountain x = new CoinFountain();
        Due.is("law(2)", x.law(2), 0);
        Due.is("law(1)", x.law(1), 2);
        Due.is("LAW", x.now(2), 1);
        Due.finds("law(3)", x, Due.BEYOND, () -> x.law(3));
        Due.finds("law(-1)", x, Due.BEYOND, () -> x.law(-1));
        Due.is("law(0)", x.law(0), 1);
    }

    private static void diver() {
        CoinFountain x = new CoinFountain();
        Due.is("diver(true, 20)", x.diver(true, 20), 0);
        Due.is("DIVER", x.now(3), 1);
        Due.is("LIE", x.now(4), 20);
        Due.is("diver(true, -20)", x.diver(true, -20), 1);
        Due.is("LIE", x.now(4), -20);
        Due.finds("diver(true, 21)", x, Due.BEYOND, () -> x.diver(true, 21));
        Due.finds("diver(true, -21)", x, Due.BEYOND, () -> x.diver(true, -21));
        Due.finds("diver(false, 21)", x, Due.BEYOND, () -> x.diver(false, 21));
        Due.finds("diver(false, -21)", x, Due.BEYOND, () -> x.diver(false, -21));
        Due.is("diver(false, 7)", x.diver(false, 7), 1);
        Due.is("DIVER", x.now(3), 0);
        Due.is("LIE", x.now(4), 0);
        Due.is("diver(false, 0)", x.diver(false, 0), 0);
    }
}
