/** The edges that promises 12 to 19 name. Each method is one sentence. */
public final class EdgeHoursTest {
    public static void main(String[] args) {
        hoursPails();
        hoursBeyond();
        hoursState();
        nowOfNobodyAndMany();
        nowBeyond();
        runsEdges();
        thrownEdges();
        thrownBeyond();
        gainEdges();
        gainBeyond();
        allEdges();
        onPails();
        onBeyond();
        onState();
        emptyFirst();
        emptyState();
        emptyNone();
        Due.end();
    }

    private static void hoursPails() {
        Due.says("12: n HOURS go (1 to 200): PAILS that are filled in them");
        CoinFountain none = new CoinFountain();
        none.coins(999);
        Due.is("hours(1) of nobody", none.hours(1), 0);
        Due.is("hours(200) of nobody", none.hours(200), 0);
        CoinFountain x = Due.crowd(2, 10);
        for (int p = 0; p < 10; p++) {
            x.set(p, 1, 999);
        }
        Due.is("hours(1) of 10 wishers", x.hours(1), 10);
        Due.is("hours(200) of 10 wishers", x.hours(200), 2000);
        Due.is("PAILS of all", x.now(7), 2010);
        Due.is("HOUR", x.now(0), 201);
        Due.is("PURSE", x.of(9, 1), 999 - 201);
        CoinFountain y = Due.told("wisher purse 2;hoper");
        Due.is("hours(3): 2 coins", y.hours(3), 2);
        Due.is("THREW in the latest", y.of(0, 4), 0);
    }

    private static void hoursBeyond() {
        Due.says("12: BEYOND");
        CoinFountain x = Due.crowd(2, 2);
        Due.findsOutside("hours", x, 1, 200, Due.BEYOND, n -> x.hours(n));
        Due.late(x, 9999);
        Due.findsOutside("hours at 9999: BEYOND is asked first", x, 1, 200, Due.BEYOND, n -> x.hours(n));
    }

    private static void hoursState() {
        Due.says("12: STATE: HOUR would be above 9999");
        for (int n : new int[] {1, 2, 199, 200}) {
            CoinFountain x = Due.crowd(1, 1);
            Due.late(x, 10000 - n);
            Due.finds("hours(" + n + ") to 10000", x, Due.STATE, () -> x.hours(n));
            if (n > 1) {
                Due.is("hours to 9999", x.hours(n - 1), 0);
                Due.is("HOUR", x.now(0), 9999);
            }
            Due.finds("hours(1) at 9999", x, Due.STATE, () -> x.hours(1));
            Due.finds("hours(200) at 9999", x, Due.STATE, () -> x.hours(200));
        }
    }

    private static void nowOfNobodyAndMany() {
        Due.says("13: 6 PURSES of all together, 7 PAILS, 8 DRY of all");
        CoinFountain none = new CoinFountain();
        CoinFountain x = Due.crowd(1, 10);
        for (int p = 0; p < 10; p++) {
            x.set(p, 1, 999);
        }
        x.coins(3);
        x.hours(1);
        int[] due = {9990, 3, 7};
        for (int what = 6; what <= 8; what++) {
            Due.is("now(" + what + ") of nobody", none.now(what), 0);
            Due.is("now(" + what + ") of 10", x.now(what), due[what - 6]);
        }
        x.leave(0);
        x.leave(8);
        due = new int[] {7992, 2, 6};
        for (int what = 6; what <= 8; what++) {
            Due.is("now(" + what + ") of 8 who stayed", x.now(what), due[what - 6]);
        }
    }

    private static void nowBeyond() {
        Due.says("13: BEYOND");
        CoinFountain x = Due.crowd(1, 3);
        Due.findsOutside("now", x, 0, 8, Due.BEYOND, what -> x.now(what));
    }

    private static void runsEdges() {
        Due.says("14: How many minutes it will run in the next HOUR");
        CoinFountain none = new CoinFountain();
        Due.is("nobody, no coin", none.runs(), 0);
        none.coins(999);
        Due.is("nobody, 999 coins", none.runs(), 999);
        CoinFountain x = Due.crowd(2, 10);
        x.coins(989);
        Due.is("10 wishers and 989", x.runs(), 999);
        x.coins(990);
        Due.is("10 wishers and 990: 999 at most", x.runs(), 999);
        CoinFountain y = Due.crowd(4, 10);
        Due.is("10 children and none", y.runs(), 0);
        y.coins(10);
        Due.is("10 children and 10", y.runs(), 0);
        y.coins(11);
        Due.is("10 children and 11", y.runs(), 1);
        Due.late(y, 9999);
        y.coins(11);
        Due.is("at 9999, too", y.runs(), 1);
        Due.is("HOUR", y.now(0), 9999);
    }

    private static void thrownEdges() {
        Due.says("15: What one will have thrown in it");
        CoinFountain x = Due.told("hoper;wisher;child");
        Due.is("a child behind a wisher, though none lies there now", x.thrown(2), -1);
        Due.is("WOULD THROW now", x.of(2, 9), 0);
        x.law(1);
        Due.is("a child before a wisher", x.thrown(2), 0);
        Due.late(x, 9999);
        x.set(1, 1, 1);
        Due.is("at 9999, too", x.thrown(1), 1);
        x.set(1, 1, 0);
        Due.is("no more than the PURSE", x.thrown(1), 0);
        CoinFountain y = Due.crowd(5, 10);
        y.set(9, 1, 999);
        Due.is("a patron at the last", y.thrown(9), 10);
    }

    private static void thrownBeyond() {
        Due.says("15: BEYOND");
        for (int n : new int[] {0, 1, 10}) {
            CoinFountain x = Due.crowd(2, n);
            Due.findsOutside("thrown of " + n, x, 0, n - 1, Due.BEYOND, p -> x.thrown(p));
        }
    }

    private static void gainEdges() {
        Due.says("16: GAIN of one");
        CoinFountain x = Due.crowd(1, 10);
        x.set(9, 2, 99);
        x.coins(9);
        Due.is("9 minutes: the last stays dry", x.gain(9), 0);
        x.coins(10);
        Due.is("10 minutes", x.gain(9), 99);
        x.turn(9, 2);
        x.coins(9);
        Due.is("its own coin is the 10th", x.gain(9), 98);
        x.coins(8);
        Due.is("its own coin is the 9th", x.gain(9), -1);
        x.turn(9, 5);
        x.set(9, 1, 999);
        Due.is("10 thrown", x.gain(9), 89);
        x.set(9, 2, 0);
        Due.is("10 thrown for nothing", x.gain(9), -10);
        Due.late(x, 9999);
        x.set(9, 1, 999);
        Due.is("at 9999, too", x.gain(9), -10);
    }

    private static void gainBeyond() {
        Due.says("16: BEYOND");
        for (int n : new int[] {0, 1, 10}) {
            CoinFountain x = Due.crowd(2, n);
            Due.findsOutside("gain of " + n, x, 0, n - 1, Due.BEYOND, p -> x.gain(p));
        }
    }

    private static void allEdges() {
        Due.says("17: GAINS of all together");
        CoinFountain none = new CoinFountain();
        none.coins(5);
        Due.is("of nobody", none.all(), 0);
        CoinFountain x = Due.crowd(2, 10);
        for (int p = 0; p < 10; p++) {
            x.set(p, 2, 99);
        }
        Due.is("of 10 wishers", x.all(), 980);
        x.coins(5);
        x.law(2);
        for (int p = 0; p < 10; p++) {
            x.turn(p, p < 5 ? 4 : 1);
        }
        Due.is("5 children fish 5 coins", x.all(), 5);
        x.leave(9);
        x.leave(0);
        Due.is("4 children fish 4 of 5", x.all(), 4 + 99);
    }

    private static void onPails() {
        Due.says("18: PAILS of one ON n HOURS (0 to 200)");
        CoinFountain x = Due.told("wisher purse 199;hoper;wisher purse 300");
        Due.is("on(1, 0)", x.on(1, 0), 0);
        Due.is("on(1, 1)", x.on(1, 1), 1);
        Due.is("on(1, 199)", x.on(1, 199), 199);
        Due.is("on(1, 200): one purse is empty by then", x.on(1, 200), 199);
        Due.is("on(0, 200)", x.on(0, 200), 200);
        Due.is("on(2, 200)", x.on(2, 200), 0);
        x.hours(3);
        Due.is("on(1, 0) with those that are there", x.on(1, 0), 3);
        Due.is("on(1, 200) with those that are there", x.on(1, 200), 199);
    }

    private static void onBeyond() {
        Due.says("18: BEYOND");
        for (int n : new int[] {0, 1, 10}) {
            CoinFountain x = Due.crowd(2, n);
            Due.findsOutside("on(.., 1) of " + n, x, 0, n - 1, Due.BEYOND, p -> x.on(p, 1));
            Due.findsOutside("on(0, ..) of " + n, x, 0, 200, Due.BEYOND, h -> x.on(0, h));
        }
        CoinFountain y = Due.crowd(1, 1);
        Due.late(y, 9999);
        Due.findsOutside("on(0, ..) at 9999: BEYOND is asked first", y, 0, 200, Due.BEYOND, h -> y.on(0, h));
        Due.findsOutside("on(.., 1) at 9999: BEYOND is asked first", y, 0, 0, Due.BEYOND, p -> y.on(p, 1));
    }

    private static void onState() {
        Due.says("18: STATE: HOUR would be above 9999");
        CoinFountain x = Due.crowd(1, 1);
        Due.late(x, 9799);
        Due.is("on(0, 200) at 9799", x.on(0, 200), 0);
        x.hours(1);
        Due.finds("on(0, 200) at 9800", x, Due.STATE, () -> x.on(0, 200));
        Due.is("on(0, 199) at 9800", x.on(0, 199), 0);
        Due.late(x, 9998);
        Due.is("on(0, 1) at 9998", x.on(0, 1), 0);
        Due.finds("on(0, 2) at 9998", x, Due.STATE, () -> x.on(0, 2));
        Due.late(x, 9999);
        Due.is("on(0, 0) at 9999", x.on(0, 0), 0);
        Due.finds("on(0, 1) at 9999", x, Due.STATE, () -> x.on(0, 1));
    }

    private static void emptyFirst() {
        Due.says("19: In how many HOURS (0 to 200) ON the PURSES of all are empty first");
        Due.is("of nobody", new CoinFountain().empty(), 0);
        CoinFountain x = Due.crowd(2, 10);
        Due.is("10 wishers of 5", x.empty(), 5);
        for (int p = 0; p < 10; p++) {
            x.set(p, 1, 0);
        }
        Due.is("10 empty ones", x.empty(), 0);
        x.set(9, 1, 1);
        Due.is("the last has one", x.empty(), 1);
        x.set(9, 1, 200);
        Due.is("the last has 200", x.empty(), 200);
        CoinFountain y = Due.told("child purse 0;coins 9;wisher purse 0");
        Due.is("a child fishes then, but first they are empty", y.empty(), 0);
        CoinFountain z = Due.told("hoper purse 9;wisher purse 1");
        z.leave(0);
        Due.is("the PURSE of one who left doesn't count", z.empty(), 1);
    }

    private static void emptyState() {
        Due.says("19: STATE: HOUR is above 9799");
        CoinFountain x = Due.told("wisher purse 0;wisher purse 0");
        Due.late(x, 9799);
        x.set(0, 1, 200);
        Due.is("empty() at 9799", x.empty(), 200);
        x.set(0, 1, 201);
        Due.finds("NONE at 9799", x, Due.NONE, () -> x.empty());
        x.hours(1);
        Due.finds("STATE at 9800 is asked before NONE", x, Due.STATE, () -> x.empty());
        x.set(0, 1, 0);
        Due.finds("STATE at 9800, though they are empty", x, Due.STATE, () -> x.empty());
        Due.late(x, 9999);
        Due.finds("STATE at 9999", x, Due.STATE, () -> x.empty());
        CoinFountain none = new CoinFountain();
        Due.late(none, 9800);
        Due.finds("STATE of nobody", none, Due.STATE, () -> none.empty());
    }

    private static void emptyNone() {
        Due.says("19: NONE");
        CoinFountain x = Due.told("wisher purse 201");
        Due.finds("in 201 hours", x, Due.NONE, () -> x.empty());
        CoinFountain y = Due.told("hoper purse 1");
        Due.finds("never", y, Due.NONE, () -> y.empty());
        CoinFountain z = Due.told("wisher purse 1;child purse 0");
        Due.finds("a child has it then", z, Due.NONE, () -> z.empty());
    }
}
