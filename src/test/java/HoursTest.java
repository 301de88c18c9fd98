/** Promises 12 to 19: hours, the next hour, on. */
public final class HoursTest {
    public static void main(String[] args) {
        hours();
        order();
        limits();
        endOfHours();
        now();
        nextHour();
        on();
        empty();
        Due.end();
    }

    private static void hours() {
        CoinFountain x = Due.told("wisher;hoper;wisher purse 1;hoper");
        Due.is("hours(1)", x.hours(1), 2);
        Due.is("RAN", x.now(5), 2);
        Due.is("COINS are gone", x.now(1), 0);
        Due.is("HOUR", x.now(0), 1);
        Due.is("PURSE", x.of(0, 1), 4);
        Due.is("PAILS of 1", x.of(1, 5), 1);
        Due.is("DRY of 1", x.of(1, 6), 0);
        Due.is("PAILS of 2", x.of(2, 5), 0);
        Due.is("DRY of 2", x.of(2, 6), 1);
        Due.is("hours(2): the purse of 2 is empty", x.hours(2), 2);
        Due.is("THREW of 2 in the latest", x.of(2, 4), 0);
        Due.is("hours(200): 2 coins are left", x.hours(200), 2);
        Due.is("RAN", x.now(5), 0);
        Due.is("HOUR", x.now(0), 203);
        Due.is("DRY of all", x.now(8), 198 + 202 + 203 + 203);
        Due.finds("hours(0)", x, Due.BEYOND, () -> x.hours(0));
        Due.finds("hours(-1)", x, Due.BEYOND, () -> x.hours(-1));
        Due.finds("hours(201)", x, Due.BEYOND, () -> x.hours(201));
        CoinFountain lone = new CoinFountain();
        lone.coins(9);
        Due.is("an hour of nobody", lone.hours(1), 0);
        Due.is("RAN for nobody", lone.now(5), 9);
    }

    private static void order() {
        // A true diver: a gentleman of great VALUE throws what is short by the coins that lie when it is his turn.
        String row = "diver;gentleman value 99;gentleman value 99;gentleman value 99;gentleman value 99;gentleman value 99";
        int[][] due = {{1, 1, 1, 1, 1}, {0, 0, 0, 0, 5}, {0, 2, 0, 2, 1}};
        for (int law = 0; law < 3; law++) {
            CoinFountain x = Due.told(row);
            x.law(law);
            Due.is("hours(1) by LAW " + law, x.hours(1), 5);
            for (int p = 0; p < 5; p++) {
                Due.is("THREW by LAW " + law + " at " + p, x.of(p, 4), due[law][p]);
            }
        }
        // Of 4 people law 2 goes 1, 3, 0, 2: a child fishes only what lies there by then.
        CoinFountain y = Due.told("law 2;child;hoper;wisher;child");
        y.hours(1);
        Due.is("child at 3 comes before the wisher at 2", y.of(3, 4), 0);
        Due.is("child at 0 comes before the wisher at 2", y.of(0, 4), 0);
        CoinFountain z = Due.told("law 2;child;wisher;child;hoper");
        z.hours(1);
        Due.is("child at 0 comes behind the wisher at 1", z.of(0, 4), -1);
        Due.is("child at 2 finds none any more", z.of(2, 4), 0);
    }

    private static void limits() {
        CoinFountain x = Due.told("child purse 999;wisher;coins 999");
        Due.is("hours(1)", x.hours(1), 2);
        Due.is("PURSE 999 at most", x.of(0, 1), 999);
        Due.is("THREW", x.of(0, 4), -1);
        Due.is("RAN", x.now(5), 999);
        CoinFountain y = Due.told("wisher;child;coins 999");
        y.hours(1);
        Due.is("COINS 999 at most, then a child", y.now(5), 998);
        Due.is("PURSE of who threw what was lost", y.of(0, 1), 4);
        Due.is("PURSE of the child", y.of(1, 1), 6);
    }

    private static void endOfHours() {
        CoinFountain x = Due.told("hoper;child");
        for (int i = 0; i < 49; i++) {
            x.hours(200);
        }
        Due.is("HOUR", x.now(0), 9800);
        Due.is("on(0, 199)", x.on(0, 199), 0);
        Due.finds("on(0, 200)", x, Due.STATE, () -> x.on(0, 200));
        Due.finds("on(0, 201): BEYOND is asked first", x, Due.BEYOND, () -> x.on(0, 201));
        Due.finds("empty()", x, Due.STATE, () -> x.empty());
        Due.finds("hours(200)", x, Due.STATE, () -> x.hours(200));
        Due.finds("hours(201): BEYOND is asked first", x, Due.BEYOND, () -> x.hours(201));
        x.sheet(0, 64, 3);
        x.hours(159);
        Due.is("HOUR", x.now(0), 9959);
        Due.is("book(0) at 9959", x.book(0), 3);
        x.hours(1);
        Due.finds("book(0) at 9960", x, Due.STATE, () -> x.book(0));
        x.hours(39);
        Due.is("HOUR", x.now(0), 9999);
        Due.finds("hours(1)", x, Due.STATE, () -> x.hours(1));
        Due.is("DRY", x.of(0, 6), 9999);
        Due.is("on(0, 0)", x.on(0, 0), 0);
        Due.finds("on(0, 1)", x, Due.STATE, () -> x.on(0, 1));
        x.coins(2);
        Due.is("runs() has no STATE", x.runs(), 1);
        Due.is("all() has no STATE", x.all(), 3 + 1);
        CoinFountain y = Due.told("person purse 0");
        for (int i = 0; i < 49; i++) {
            y.hours(i == 0 ? 199 : 200);
        }
        Due.is("HOUR", y.now(0), 9799);
        Due.is("empty() at 9799", y.empty(), 0);
    }

    private static void now() {
        CoinFountain x = Due.told("wisher purse 20;wisher purse 3;hoper;coins 1;law 2;diver lie 7");
        int[] first = {0, 1, 2, 1, 7, 0, 28, 0, 0};
        for (int what = 0; what < first.length; what++) {
            Due.is("now(" + what + ")", x.now(what), first[what]);
        }
        x.hours(2);
        int[] then = {2, 0, 2, 1, 7, 2, 24, 5, 1};
        for (int what = 0; what < then.length; what++) {
            Due.is("now(" + what + ") then", x.now(what), then[what]);
        }
        Due.finds("now(-1)", x, Due.BEYOND, () -> x.now(-1));
        Due.finds("now(9)", x, Due.BEYOND, () -> x.now(9));
    }

    private static void nextHour() {
        CoinFountain x = Due.told("person;hoper value 9;child;wisher value 7;gentleman value 1;coins 1");
        String before = Due.all(x);
        Due.is("runs()", x.runs(), 2);
        int[] thrown = {1, 0, -1, 1, 0};
        int[] gain = {2, 9, 1, -1, 0};
        int sum = 0;
        for (int p = 0; p < 5; p++) {
            Due.is("thrown(" + p + ")", x.thrown(p), thrown[p]);
            Due.is("gain(" + p + ")", x.gain(p), gain[p]);
            sum += gain[p];
        }
        Due.is("all()", x.all(), sum);
        Due.same("nothing changes", Due.all(x), before);
        Due.finds("thrown(5)", x, Due.BEYOND, () -> x.thrown(5));
        Due.finds("thrown(-1)", x, Due.BEYOND, () -> x.thrown(-1));
        Due.finds("gain(5)", x, Due.BEYOND, () -> x.gain(5));
        Due.finds("gain(-1)", x, Due.BEYOND, () -> x.gain(-1));
        x.hours(1);
        Due.is("RAN as foretold", x.now(5), 2);
        for (int p = 0; p < 5; p++) {
            Due.is("THREW as foretold at " + p, x.of(p, 4), thrown[p]);
        }
    }

    private static void on() {
        CoinFountain x = Due.told("wisher purse 4;hoper;wisher purse 2");
        x.hours(1);
        String before = Due.all(x);
        Due.is("on(1, 0)", x.on(1, 0), 1);
        Due.is("on(1, 1)", x.on(1, 1), 2);
        Due.is("on(1, 2)", x.on(1, 2), 2);
        Due.is("on(0, 3)", x.on(0, 3), 4);
        Due.is("on(0, 200)", x.on(0, 200), 4);
        Due.same("nothing changes", Due.all(x), before);
        Due.finds("on(3, 1)", x, Due.BEYOND, () -> x.on(3, 1));
        Due.finds("on(-1, 1)", x, Due.BEYOND, () -> x.on(-1, 1));
        Due.finds("on(0, -1)", x, Due.BEYOND, () -> x.on(0, -1));
        Due.finds("on(0, 201)", x, Due.BEYOND, () -> x.on(0, 201));
    }

    private static void empty() {
        CoinFountain x = Due.told("wisher purse 7;wisher purse 3");
        String before = Due.all(x);
        Due.is("empty()", x.empty(), 7);
        Due.same("nothing changes", Due.all(x), before);
        x.set(0, 1, 200);
        Due.is("empty() at the last", x.empty(), 200);
        x.set(0, 1, 201);
        Due.finds("empty() behind the last", x, Due.NONE, () -> x.empty());
        Due.is("empty() of nobody", new CoinFountain().empty(), 0);
        // The child gets what the wisher throws: first, never empty again.
        CoinFountain y = Due.told("child purse 0;wisher purse 0;coins 1");
        Due.is("empty() by what is first", y.empty(), 0);
        y.hours(1);
        Due.finds("empty() of a child", y, Due.NONE, () -> y.empty());
    }
}
