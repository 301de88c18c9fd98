/** Promises 20 to 30: what to throw. */
public final class ThrowTest {
    public static void main(String[] args) {
        gainIf();
        best();
        sorryAndRegret();
        stand();
        kind();
        lie();
        word();
        fair();
        rests();
        restsOfMany();
        Due.end();
    }

    private static void gainIf() {
        CoinFountain x = Due.told("hoper purse 99 value 9;hoper value 9;hoper purse 2 value 9");
        String before = Due.all(x);
        Due.is("gainIf(0, 0)", x.gainIf(0, 0), 0);
        Due.is("gainIf(0, 1)", x.gainIf(0, 1), 8);
        Due.is("gainIf(0, 99)", x.gainIf(0, 99), -90);
        Due.is("gainIf(1, 1)", x.gainIf(1, 1), -1);
        Due.is("gainIf(1, 2)", x.gainIf(1, 2), 7);
        Due.is("gainIf(2, 2)", x.gainIf(2, 2), -2);
        Due.same("nothing changes", Due.all(x), before);
        Due.finds("gainIf(2, 3)", x, Due.STATE, () -> x.gainIf(2, 3));
        Due.finds("gainIf(2, 100): BEYOND is asked first", x, Due.BEYOND, () -> x.gainIf(2, 100));
        Due.finds("gainIf(0, -1)", x, Due.BEYOND, () -> x.gainIf(0, -1));
        Due.finds("gainIf(3, 0)", x, Due.BEYOND, () -> x.gainIf(3, 0));
        Due.finds("gainIf(-1, 0)", x, Due.BEYOND, () -> x.gainIf(-1, 0));
        // Others throw what they WOULD by how it is as they throw: with a diver they see the coins of those before.
        CoinFountain y = Due.told("diver;hoper;gentleman;gentleman");
        Due.is("gainIf(0, 0) before gentlemen", y.gainIf(0, 0), 3);
        y.law(1);
        Due.is("gainIf(2, 0): 1 pays 2, 0 nothing", y.gainIf(2, 0), 0);
        Due.is("gainIf(2, 1): 1 pays 1, 0 nothing", y.gainIf(2, 1), -1);
        CoinFountain z = Due.told("child;hoper;coins 2");
        Due.is("gainIf of a child that fishes none", z.gainIf(0, 0), 3);
        Due.is("gain of the child", z.gain(0), 4);
    }

    private static void best() {
        CoinFountain x = Due.told("hoper;hoper;hoper value 4;hoper value 99;hoper value 1");
        Due.is("best(0)", x.best(0), 1);
        Due.is("best(1)", x.best(1), 2);
        Due.is("best(2)", x.best(2), 3);
        Due.is("best(3)", x.best(3), 4);
        Due.is("best(4): not worth it", x.best(4), 0);
        x.set(4, 2, 5);
        Due.is("best(4): of several the least", x.best(4), 0);
        x.set(3, 1, 3);
        Due.is("best(3): no more than the PURSE", x.best(3), 0);
        x.set(3, 1, 4);
        Due.is("best(3): all of the PURSE", x.best(3), 4);
        Due.finds("best(5)", x, Due.BEYOND, () -> x.best(5));
        Due.finds("best(-1)", x, Due.BEYOND, () -> x.best(-1));
        // Children behind fish out what lies there: one of 10 has to throw 1 and what 9 children take.
        CoinFountain y = Due.told("hoper value 99;child;child;child;child;child;child;child;child;child");
        y.set(0, 1, 99);
        Due.is("best(0) before 9 children", y.best(0), 10);
        y.set(0, 2, 10);
        Due.is("best(0) before 9 children for 10", y.best(0), 0);
        y.set(0, 2, 11);
        Due.is("best(0) before 9 children for 11", y.best(0), 10);
    }

    private static void sorryAndRegret() {
        CoinFountain x = Due.told("wisher;hoper;child;gentleman guess 9;patron purse 9 guess 4;coins 3");
        // Coins: 3, 4, 4, 3, 3, 4: it runs 4 minutes.
        Due.is("runs()", x.runs(), 4);
        Due.is("sorry()", x.sorry(), 1 | 16);
        int[] due = {1, 0, -1, 0, 2};
        for (int p = 0; p < due.length; p++) {
            Due.is("regret(" + p + ")", x.regret(p), due[p]);
        }
        Due.is("gain(4)", x.gain(4), -1);
        Due.is("best(4)", x.best(4), 2);
        Due.is("sorry() of nobody", new CoinFountain().sorry(), 0);
        Due.finds("regret(5)", x, Due.BEYOND, () -> x.regret(5));
        Due.finds("regret(-1)", x, Due.BEYOND, () -> x.regret(-1));
        CoinFountain y = Due.told("person;hoper;hoper;hoper;hoper;hoper;hoper;hoper;hoper;wisher");
        // It runs 2 minutes: 0 and 9 need not have thrown, 2 and 3 would throw 1 and 2 for 3.
        Due.is("sorry() of 10", y.sorry(), 512 | 8 | 4 | 1);
    }

    private static void stand() {
        CoinFountain x = Due.told("person guess 1;wisher;wisher;gentleman value 9 guess 3");
        // At 0: SHORT 0 by GUESS 1. The one at 3 is SHORT 1; elsewhere he throws nothing.
        Due.is("gain(3)", x.gain(3), -1);
        Due.is("runs()", x.runs(), 3);
        String before = Due.all(x);
        Due.is("stand(3)", x.stand(3), 0);
        Due.is("stand(0): of several the least", x.stand(0), 0);
        Due.same("nothing changes", Due.all(x), before);
        Due.finds("stand(4)", x, Due.BEYOND, () -> x.stand(4));
        Due.finds("stand(-1)", x, Due.BEYOND, () -> x.stand(-1));
        // A person of GUESS 0 throws at PLACE 0 alone, and there are 3 coins for 4: at 1 is best.
        CoinFountain y = Due.told("person;hoper;hoper;hoper;coins 3");
        Due.is("stand(0)", y.stand(0), 1);
        Due.is("stand(1)", y.stand(1), 0);
        Due.is("stand(3)", y.stand(3), 0);
        // As by move(): who goes back lets those between close up, who throw by where they stand then.
        CoinFountain z = Due.told("child value 0;person guess 1;person guess 1");
        Due.is("stand(0) of the child, behind those who throw", z.stand(0), 2);
    }

    private static void kind() {
        CoinFountain x = Due.told("person;hoper;hoper value 9");
        Due.is("kind(0)", x.kind(0), 0);
        Due.is("kind(1): a wisher's coin is the one that is short", x.kind(1), 2);
        x.set(1, 2, 1);
        Due.is("kind(1) of VALUE 1: a child takes that of 0", x.kind(1), 4);
        x.law(1);
        Due.is("kind(1) before 0: of several the least", x.kind(1), 0);
        x.law(0);
        Due.is("kind(2)", x.kind(2), 3);
        x.set(2, 1, 2);
        Due.is("kind(2) of a thin purse", x.kind(2), 3);
        x.coins(9);
        Due.is("kind(0) with coins: a child", x.kind(0), 4);
        x.set(0, 3, 99);
        x.coins(0);
        Due.is("kind(0) that GUESSES all is well", x.kind(0), 2);
        Due.finds("kind(3)", x, Due.BEYOND, () -> x.kind(3));
        Due.finds("kind(-1)", x, Due.BEYOND, () -> x.kind(-1));
        CoinFountain y = Due.told("wisher;hoper guess 1");
        Due.is("kind(1) by what is SHORT of 2", y.kind(1), 0);
    }

    private static void lie() {
        CoinFountain x = Due.told("person;person;person");
        // Of the true word: 0 throws 1, 1 throws 1 as it is short 1 then, 2 throws 1: 9 less 3.
        // If all think there are 2 more: only 2 throws: 1 coin, 3 less 1.
        String before = Due.all(x);
        Due.is("lie()", x.lie(), 0);
        Due.same("nothing changes", Due.all(x), before);
        CoinFountain y = Due.told("patron purse 99;hoper;hoper;diver lie 5");
        // All GAIN 3 for each coin up to 3, and lose 1 for each above: the lie that makes the patron throw 3.
        Due.is("lie(): the patron throws 3", y.lie(), -20);
        y.coins(2);
        Due.is("lie(): the patron throws 1", y.lie(), 0);
        y.set(0, 2, 0);
        y.set(1, 2, 0);
        y.set(2, 2, 0);
        Due.is("lie(): the patron throws nothing", y.lie(), 1);
        y.coins(0);
        Due.is("lie(): he throws nothing by 3", y.lie(), 3);
        Due.is("lie() of nobody", new CoinFountain().lie(), -20);
        CoinFountain v = Due.told("patron;coins 20");
        Due.is("lie(): one of 20 coins is left to see", v.lie(), -19);
        v.coins(19);
        Due.is("lie(): one of 19 coins is left to see", v.lie(), -18);
        v.coins(21);
        Due.is("lie(): one of 21 coins is left to see", v.lie(), -20);
        CoinFountain z = Due.told("gentleman value 0;coins 999;law 1");
        Due.is("lie(): the least of those that are all as good", z.lie(), -20);
    }

    private static void word() {
        CoinFountain x = Due.told("person;person;person");
        // By guess 0 only 0 throws: 3 less 1; by a true word all do: 9 less 3.
        Due.is("word()", x.word(), 6 - 2);
        x.diver(true, 20);
        Due.is("word() whoever speaks now", x.word(), 6 - 2);
        Due.is("the LIE stays", x.now(4), 20);
        Due.is("the DIVER stays", x.now(3), 1);
        CoinFountain y = Due.told("person;hoper;hoper");
        y.coins(3);
        Due.is("word(): 0 need not throw", y.word(), 1);
        CoinFountain z = Due.told("patron value 0 guess 9;hoper value 0");
        Due.is("word() may be bad", z.word(), -2);
    }

    private static void fair() {
        // By LAW 0: 1 1 1 for 3 pails: 100. By LAW 1: the last pays 3 and 0, 1 nothing: 100. Least.
        CoinFountain x = Due.told("diver;gentleman;gentleman;gentleman");
        String before = Due.all(x);
        Due.is("fair(): of several the least", x.fair(), 0);
        Due.same("nothing changes", Due.all(x), before);
        // By LAW 0 the child comes first and finds none: 1 for 1 coin. By LAW 1 it fishes out what the wisher threw.
        CoinFountain y = Due.told("child;wisher");
        Due.is("fair(): child first", y.fair(), 0);
        CoinFountain z = Due.told("wisher;child");
        Due.is("fair(): child first by LAW 1", z.fair(), 1);
        CoinFountain w = Due.told("wisher;child;child");
        // LAW 0: 1 coin, fished out: 0. LAW 1: 1 pail. LAW 2: 1 first (none), then wisher, then child: 0.
        Due.is("fair() by LAW 1", w.fair(), 1);
        CoinFountain v = Due.told("wisher;child;wisher;wisher");
        // By LAW 0 and 1: 3 thrown, 2 lie. By LAW 2 the child finds none: 3 lie.
        Due.is("fair() by LAW 2", v.fair(), 2);
        v.law(1);
        Due.is("fair() whatever LAW is now", v.fair(), 2);
        Due.is("LAW stays", v.now(2), 1);
        // Nothing is thrown: PAILS by 1. Coins 2, hopers.
        CoinFountain u = Due.told("hoper;hoper;coins 2");
        Due.is("fair() where nothing is thrown", u.fair(), 0);
        Due.is("fair() of nobody", new CoinFountain().fair(), 0);
        fairCutAndPaid();
    }

    private static void fairCutAndPaid() {
        // What a child fishes out is not taken from what is thrown.
        CoinFountain x = Due.told("wisher;hoper;child;coins 3");
        // Always 1 thrown, 1 fished: 3 pails, 300 each.
        Due.is("fair(): fished out does not count", x.fair(), 0);
        // True diver, one coin, gentleman before a child: LAW 0 he needs none; LAW 1 the child took it, so he pays 1.
        CoinFountain y = Due.told("diver;gentleman;child;coins 1");
        // LAW 0: 0 thrown, child fishes: 0 pails: 0. LAW 1: child fishes, he throws 1: 1 pail: 100.
        Due.is("fair(): 0 by nothing thrown", y.fair(), 1);
        // LAW 0: the child fishes 1, he thinks 1 and throws 1: 2 pails for 1. LAW 1: he thinks 2: 2 pails for nothing, by 1.
        CoinFountain z = Due.told("child;gentleman;coins 3;diver lie -1");
        Due.is("fair(): by 1, if nothing is thrown", z.fair(), 0);
        // 7 pails for 28 coins by LAW 0, for 27 by LAW 1: 25 both, as quotients are cut.
        CoinFountain w = Due.told("diver lie -20;patron purse 28;patron;patron;patron;person;patron purse 14;wisher");
        Due.is("fair(): quotients are cut", w.fair(), 0);
        Due.is("runs() by LAW 0", w.runs(), 28);
        w.law(1);
        Due.is("runs() by LAW 1", w.runs(), 27);
    }

    private static void rests() {
        CoinFountain x = Due.told("hoper;hoper");
        // Both 0: 0 would throw. 0 throws: rest? 1 would not (3 - 1 for a pail at 2 coins: yes, 2 is more than 0).
        // Both: 0 gets a pail of 1's coin alone, so it would rather not. 1 throws alone: it would not have a pail: 0 is more than -1.
        Due.is("rests()", x.rests(), 0);
        Due.finds("rest()", x, Due.NONE, () -> x.rest());
        x.set(1, 2, 0);
        Due.is("rests() with 1 of VALUE 0", x.rests(), 1);
        Due.is("rest() with 1 of VALUE 0", x.rest(), 1);
        x.set(0, 1, 0);
        Due.is("rests() where 0 has no coin", x.rests(), 1);
        Due.is("rest() where 0 has no coin", x.rest(), 0);
        x.set(0, 1, 1);
        x.coins(1);
        Due.is("rests() with a coin", x.rests(), 1);
        Due.is("rest() with a coin", x.rest(), 0);
        x.set(1, 2, 3);
        Due.is("rest(): the coin is for 0, 1 throws", x.rest(), 2);
        Due.is("rests()", x.rests(), 1);
        x.set(1, 2, 1);
        Due.is("rests(): 1 may throw or not", x.rests(), 2);
        Due.is("rest(): the least", x.rest(), 0);
        x.law(2);
        x.diver(true, 20);
        x.turn(0, 4);
        x.turn(1, 5);
        Due.is("rests() whatever KINDS, LAW, DIVER", x.rests(), 2);
        x.coins(999);
        Due.is("rests() with 999 coins", x.rests(), 1);
        Due.is("rests() of nobody", new CoinFountain().rests(), 1);
        Due.is("rest() of nobody", new CoinFountain().rest(), 0);
    }

    private static void restsOfMany() {
        CoinFountain x = new CoinFountain();
        for (int i = 0; i < 8; i++) {
            x.person(1);
            x.set(i, 2, 1);
        }
        // Who stands at the PLACE that one coin more would reach may throw or not; none else will:
        // nobody throws (0 may), or 0 throws and 1, who may then, doesn't.
        Due.is("rests() of 8", x.rests(), 2);
        x.set(7, 2, 2);
        x.coins(7);
        Due.is("rest() of 8 where the last will", x.rest(), 128);
        x.person(0);
        Due.finds("rests() of 9", x, Due.SIZE, () -> x.rests());
        Due.finds("rest() of 9", x, Due.SIZE, () -> x.rest());
        x.person(0);
        Due.finds("rests() of 10", x, Due.SIZE, () -> x.rests());
        Due.finds("rest() of 10", x, Due.SIZE, () -> x.rest());
    }
}
