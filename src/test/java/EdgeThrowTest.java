/** The edges that promises 20 to 30 name. Each method is one sentence. */
public final class EdgeThrowTest {
    public static void main(String[] args) {
        gainIfRange();
        gainIfBeyond();
        gainIfState();
        bestMost();
        bestPurse();
        bestLeast();
        bestBeyond();
        sorryMore();
        sorryPurse();
        regretEdges();
        regretBeyond();
        standMost();
        standLeast();
        standBeyond();
        kindEach();
        kindLeast();
        kindBeyond();
        lieMost();
        lieNotBelow();
        lieLeast();
        wordEdges();
        fairForEachCoin();
        fairAboveZero();
        fairByOne();
        fairCut();
        fairLeast();
        fairBehindOneWhoLeft();
        restsMore();
        restsPurse();
        restsWhatLies();
        restsWhatever();
        restsSize();
        restLeast();
        restSize();
        restNone();
        Due.end();
    }

    private static void gainIfRange() {
        Due.says("20: GAIN IF ONE THREW c (0 to 99)");
        CoinFountain x = Due.told("hoper purse 999 value 99");
        Due.is("c 0", x.gainIf(0, 0), 0);
        Due.is("c 1", x.gainIf(0, 1), 98);
        Due.is("c 98", x.gainIf(0, 98), 1);
        Due.is("c 99", x.gainIf(0, 99), 0);
        x.set(0, 2, 0);
        Due.is("c 99 for nothing", x.gainIf(0, 99), -99);
        Due.late(x, 9999);
        Due.is("at 9999, too", x.gainIf(0, 99), -99);
    }

    private static void gainIfBeyond() {
        Due.says("20: BEYOND");
        for (int n : new int[] {0, 1, 10}) {
            CoinFountain x = Due.crowd(2, n);
            Due.findsOutside("gainIf(.., 0) of " + n, x, 0, n - 1, Due.BEYOND, p -> x.gainIf(p, 0));
            Due.findsOutside("gainIf(0, ..) of " + n, x, 0, 99, Due.BEYOND, c -> x.gainIf(0, c));
        }
        CoinFountain rich = Due.told("hoper purse 999");
        Due.findsOutside("gainIf(0, ..) of a full PURSE", rich, 0, 99, Due.BEYOND, c -> rich.gainIf(0, c));
        CoinFountain poor = Due.told("hoper purse 0");
        Due.findsOutside("gainIf(0, ..) of an empty PURSE: BEYOND is asked first", poor, 0, 99, Due.BEYOND, c -> poor.gainIf(0, c));
    }

    private static void gainIfState() {
        Due.says("20: STATE: the PURSE has less");
        for (int purse : new int[] {0, 1, 50, 98}) {
            CoinFountain x = Due.told("hoper value 0 guess 9;hoper value 0");
            x.set(1, 1, purse);
            Due.is("all of " + purse, x.gainIf(1, purse), -purse);
            Due.finds("one more than " + purse, x, Due.STATE, () -> x.gainIf(1, purse + 1));
            Due.finds("99 of " + purse, x, Due.STATE, () -> x.gainIf(1, 99));
        }
        CoinFountain y = Due.told("hoper purse 99 value 0");
        Due.is("99 of 99", y.gainIf(0, 99), -99);
        CoinFountain child = Due.told("child purse 0;coins 5");
        Due.finds("a child has it not yet", child, Due.STATE, () -> child.gainIf(0, 1));
    }

    /** By LAW 1 the one at PLACE 9 throws first, and 9 children fish: 19 are needed, and no row needs more. */
    private static CoinFountain beforeChildren(int value, int purse) {
        CoinFountain x = Due.crowd(4, 9);
        for (int p = 0; p < 9; p++) {
            x.set(p, 2, 0);
        }
        x.person(1);
        x.set(9, 2, value);
        x.set(9, 1, purse);
        x.law(1);
        return x;
    }

    private static void bestMost() {
        Due.says("21: The c (0 to 20) by which GAIN is most");
        CoinFountain x = beforeChildren(99, 999);
        Due.is("best(9)", x.best(9), 19);
        Due.is("gainIf(9, 19)", x.gainIf(9, 19), 80);
        Due.is("gainIf(9, 18)", x.gainIf(9, 18), -18);
        x.leave(8);
        Due.is("best(8) before 8 children", x.best(8), 17);
        x.law(0);
        Due.is("best(8) behind children", x.best(8), 9);
    }

    private static void bestPurse() {
        Due.says("21: and no more than the PURSE has");
        int[][] due = {{18, 0}, {19, 19}, {20, 19}, {0, 0}};
        for (int[] one : due) {
            Due.is("PURSE " + one[0], beforeChildren(99, one[0]).best(9), one[1]);
        }
        CoinFountain x = Due.told("hoper;hoper purse 2");
        Due.is("all of the PURSE", x.best(1), 2);
        x.set(1, 1, 1);
        Due.is("one less", x.best(1), 0);
    }

    private static void bestLeast() {
        Due.says("21: of several the least");
        Due.is("19 for 19", beforeChildren(19, 99).best(9), 0);
        Due.is("20 for 19", beforeChildren(20, 99).best(9), 19);
        CoinFountain x = Due.told("wisher value 1");
        Due.is("1 for 1", x.best(0), 0);
        x.set(0, 2, 2);
        Due.is("2 for 1", x.best(0), 1);
        x.coins(1);
        Due.is("2 for nothing", x.best(0), 0);
    }

    private static void bestBeyond() {
        Due.says("21: BEYOND");
        for (int n : new int[] {0, 1, 10}) {
            CoinFountain x = Due.crowd(2, n);
            Due.findsOutside("best of " + n, x, 0, n - 1, Due.BEYOND, p -> x.best(p));
        }
    }

    private static void sorryMore() {
        Due.says("22: PEOPLE who would GAIN more by some c than by what they WOULD throw");
        Due.is("of nobody", new CoinFountain().sorry(), 0);
        Due.is("19 for 19 is not more", beforeChildren(19, 99).sorry(), 0);
        Due.is("20 for 19 is more", beforeChildren(20, 99).sorry(), 512);
        CoinFountain x = Due.told("person value 1");
        Due.is("1 for 1 or nothing for nothing", x.sorry(), 0);
        x.set(0, 2, 0);
        x.turn(0, 2);
        Due.is("a wisher for nothing", x.sorry(), 1);
        x.turn(0, 4);
        x.coins(1);
        Due.is("a child that fishes is not sorry", x.sorry(), 0);
        x.set(0, 2, 1);
        Due.is("a child that fishes its own pail for 1", x.sorry(), 0);
        x.set(0, 2, 2);
        Due.is("a child that fishes its own pail for 2", x.sorry(), 1);
    }

    private static void sorryPurse() {
        Due.says("22: (0 to 20, and no more than the PURSE has)");
        Due.is("PURSE 18", beforeChildren(99, 18).sorry(), 0);
        Due.is("PURSE 19", beforeChildren(99, 19).sorry(), 512);
        CoinFountain x = Due.told("hoper purse 0");
        Due.is("PURSE 0", x.sorry(), 0);
        x.set(0, 1, 1);
        Due.is("PURSE 1", x.sorry(), 1);
    }

    private static void regretEdges() {
        Due.says("23: GAIN of one by that c that is best, less what it is now");
        Due.is("99 for 19", beforeChildren(99, 99).regret(9), 80);
        Due.is("19 for 19", beforeChildren(19, 99).regret(9), 0);
        Due.is("no PURSE", beforeChildren(99, 18).regret(9), 0);
        CoinFountain x = Due.told("patron purse 99 value 0;hoper;hoper;hoper;hoper;hoper;hoper;hoper;hoper;hoper");
        Due.is("a patron who pays for all", x.regret(0), 10);
        CoinFountain y = Due.told("child;coins 2");
        Due.is("a child that fishes", y.regret(0), -1);
        y.coins(1);
        Due.is("a child that fishes its own pail", y.regret(0), 2);
        y.coins(0);
        Due.is("a child that could throw", y.regret(0), 2);
    }

    private static void regretBeyond() {
        Due.says("23: BEYOND");
        for (int n : new int[] {0, 1, 10}) {
            CoinFountain x = Due.crowd(2, n);
            Due.findsOutside("regret of " + n, x, 0, n - 1, Due.BEYOND, p -> x.regret(p));
        }
    }

    private static void standMost() {
        Due.says("24: The PLACE to which one should go (as by move()) so that GAIN is most");
        // The only coin is that of the wisher, who stands behind all others: a child has to go behind him.
        for (int from = 0; from < 10; from++) {
            CoinFountain x = Due.crowd(1, 8);
            x.person(2);
            x.person(4);
            x.set(9, 2, 0);
            x.move(9, from);
            Due.is("stand(" + from + ") of a child", x.stand(from), 9);
        }
        for (int from = 0; from < 10; from++) {
            CoinFountain x = Due.crowd(1, 10);
            x.coins(1);
            Due.is("stand(" + from + ") for the only minute", x.stand(from), 0);
        }
        CoinFountain y = Due.told("person;hoper;hoper;coins 2");
        Due.is("stand(0): at 0 he would throw", y.stand(0), 1);
        y.move(0, 2);
        Due.is("stand(2): at 0 he would throw", y.stand(2), 1);
    }

    private static void standLeast() {
        Due.says("24: of several the least");
        for (int from = 0; from < 10; from++) {
            CoinFountain x = Due.crowd(1, 10);
            Due.is("all as good, from " + from, x.stand(from), 0);
            x.coins(10);
            Due.is("all as good with coins, from " + from, x.stand(from), 0);
        }
        Due.is("alone", Due.crowd(3, 1).stand(0), 0);
        CoinFountain y = Due.told("person;hoper;hoper;hoper;coins 4");
        Due.is("1, 2 and 3 alike, at 0 he would throw", y.stand(0), 1);
        y.move(0, 3);
        Due.is("1, 2 and 3 alike, from 3", y.stand(3), 1);
    }

    private static void standBeyond() {
        Due.says("24: BEYOND");
        for (int n : new int[] {0, 1, 10}) {
            CoinFountain x = Due.crowd(2, n);
            Due.findsOutside("stand of " + n, x, 0, n - 1, Due.BEYOND, p -> x.stand(p));
        }
    }

    private static void kindEach() {
        Due.says("25: The KIND as one of which one has most GAIN");
        CoinFountain person = Due.told("hoper");
        Due.is("PERSON: the one coin for a pail", person.kind(0), 0);
        CoinFountain hoper = Due.told("person;wisher");
        Due.is("HOPER: the wisher pays, none lies there to be fished", hoper.kind(0), 1);
        CoinFountain wisher = Due.told("person guess 9");
        Due.is("WISHER: all others guess that there is enough", wisher.kind(0), 2);
        CoinFountain gentleman = Due.told("hoper;hoper value 9");
        Due.is("GENTLEMAN: two are short", gentleman.kind(1), 3);
        CoinFountain child = Due.told("person;coins 2");
        Due.is("CHILD: one is left", child.kind(0), 4);
        CoinFountain patron = Due.told("hoper;hoper purse 9 value 9;child;child");
        Due.is("PATRON: two children fish behind", patron.kind(1), 5);
    }

    private static void kindLeast() {
        Due.says("25: of several the least");
        CoinFountain x = Due.told("patron purse 0");
        Due.is("an empty PURSE", x.kind(0), 0);
        CoinFountain y = Due.told("hoper;hoper value 2");
        Due.is("two for VALUE 2: as good as nothing", y.kind(1), 0);
        CoinFountain z = Due.told("hoper;hoper guess 1;coins 1");
        Due.is("PERSON, WISHER, GENTLEMAN and PATRON alike", z.kind(1), 0);
    }

    private static void kindBeyond() {
        Due.says("25: BEYOND");
        for (int n : new int[] {0, 1, 10}) {
            CoinFountain x = Due.crowd(2, n);
            Due.findsOutside("kind of " + n, x, 0, n - 1, Due.BEYOND, p -> x.kind(p));
        }
    }

    private static void lieMost() {
        Due.says("26: The LIE (-20 to 20) of a DIVER who speaks by which GAINS of all together are most");
        for (int n = 1; n <= 10; n++) {
            CoinFountain x = Due.crowd(1, n);
            for (int p = 0; p < n; p++) {
                x.set(p, 2, 0);
            }
            x.turn(n - 1, 5);
            x.set(n - 1, 1, 99);
            Due.is("a patron of " + n + " who should throw nothing", x.lie(), n);
            x.coins(20);
            Due.is("and sees 20", x.lie(), n - 20);
            x.coins(20 + n);
            Due.is("and sees as many more", x.lie(), -20);
            x.diver(true, 3);
            x.coins(0);
            Due.is("whatever the diver says now", x.lie(), n);
        }
    }

    /** By -20 he thinks that 1 lies there and throws in vain; by -21, which is none, he would think 0 and throw nothing. */
    private static void lieNotBelow() {
        Due.says("26: The LIE (-20 to 20)");
        CoinFountain x = Due.told("hoper;person;coins 21");
        Due.is("-19, by which nothing is short", x.lie(), -19);
        x.coins(20);
        Due.is("-20, by which too much is short", x.lie(), -20);
    }

    private static void lieLeast() {
        Due.says("26: of several the least");
        Due.is("of nobody", new CoinFountain().lie(), -20);
        CoinFountain x = Due.crowd(2, 10);
        x.coins(999);
        Due.is("of wishers", x.lie(), -20);
        CoinFountain y = Due.told("patron purse 99;hoper;hoper");
        Due.is("the patron pays for all by each word that is too low", y.lie(), -20);
        y.coins(1);
        // By LIE -20 to -1 he throws 3, one too many; by 0 he throws 2.
        Due.is("by a true word", y.lie(), 0);
    }

    private static void wordEdges() {
        Due.says("27: What a true word of a DIVER (LIE 0) is worth: GAINS of all with one, less with none");
        Due.is("of nobody", new CoinFountain().word(), 0);
        CoinFountain x = Due.told("patron purse 99 value 0 guess 99;hoper value 0");
        Due.is("it may cost", x.word(), -2);
        x.set(0, 3, 0);
        x.coins(2);
        Due.is("it may save", x.word(), 2);
        x.diver(true, -20);
        Due.is("with a LIE now", x.word(), 2);
        x.set(0, 3, 2);
        Due.is("where one guesses well", x.word(), 0);
        Due.is("the LIE stays", x.now(4), -20);
        Due.late(x, 9999);
        x.set(0, 1, 99);
        Due.is("at 9999, too", x.word(), -2);
    }

    private static void fairForEachCoin() {
        Due.says("28: most PAILS are filled for each COIN thrown");
        // A diver who says one too few: by LAW 0 they throw 1, 2, 1, by LAW 1 the last 3, by LAW 2 2 and 2.
        CoinFountain x = Due.told("gentleman;gentleman;gentleman;diver lie -1");
        int[] thrown = {4, 3, 4};
        for (int law = 0; law < 3; law++) {
            x.law(law);
            Due.is("runs() by LAW " + law, x.runs(), thrown[law]);
            Due.is("fair()", x.fair(), 1);
        }
    }

    private static void fairAboveZero() {
        Due.says("28: by all that is thrown above 0, together");
        // By LAW 0: 2 thrown, 1 fished: 1 pail for 2: 50. By LAW 1: the child finds none: 2 pails for 2.
        CoinFountain x = Due.told("wisher;wisher;child");
        Due.is("fair()", x.fair(), 1);
    }

    private static void fairByOne() {
        Due.says("28: by 1, if that is 0");
        // By LAW 0 he sees 1 and throws nothing, 2 pails by 1; by LAW 1 the child fished first, he throws 1: 2 pails for 1.
        CoinFountain x = Due.told("gentleman;child;coins 3;diver lie -2");
        Due.is("nothing by LAW 0, 1 by LAW 1", x.fair(), 0);
        // The other way about.
        CoinFountain y = Due.told("child;gentleman;coins 3;diver lie -1");
        Due.is("1 by LAW 0, nothing by LAW 1", y.fair(), 0);
        // Nothing is thrown by LAW 0 for 1 pail, 1 by LAW 1 for 2.
        CoinFountain z = Due.told("gentleman;child;coins 2;diver lie -1");
        Due.is("2 pails for 1 are more than 1 for nothing", z.fair(), 1);
        CoinFountain w = Due.told("hoper;hoper;coins 9");
        Due.is("nothing by all", w.fair(), 0);
    }

    private static void fairCut() {
        Due.says("28: Quotients are cut");
        // 7 pails for 28 coins by LAW 0, for 27 by LAW 1: 25 both.
        CoinFountain x = Due.told("diver lie -20;patron purse 28;patron;patron;patron;person;patron purse 14;wisher");
        Due.is("fair()", x.fair(), 0);
    }

    private static void fairLeast() {
        Due.says("28: of several the least");
        Due.is("of nobody", new CoinFountain().fair(), 0);
        CoinFountain x = Due.told("child;wisher;child;child");
        // By LAW 0 the child at 2 fishes, by LAW 1 that at 0, by LAW 2 that at 0: 0 pails by all.
        Due.is("0 by all", x.fair(), 0);
        CoinFountain y = Due.told("wisher;child");
        // By LAW 0: 0; by LAW 1 and 2 the child finds none: 100.
        Due.is("1 and 2 alike", y.fair(), 1);
        CoinFountain z = Due.told("wisher;child;child");
        Due.is("1 alone", z.fair(), 1);
        CoinFountain w = Due.told("child;wisher;wisher;child");
        // LAW 0 (child, wisher, wisher, child): 1 of 2; LAW 1 likewise; LAW 2 (wisher, child, child, wisher): 1 of 2.
        Due.is("50 by all", w.fair(), 0);
        CoinFountain v = Due.told("wisher;child;wisher;wisher");
        Due.is("2 alone", v.fair(), 2);
    }

    private static void fairBehindOneWhoLeft() {
        Due.says("28: all that is thrown: by those who stand there");
        CoinFountain x = Due.crowd(2, 10);
        Due.is("of 10", x.fair(), 0);
        CoinFountain y = Due.told("gentleman;gentleman;gentleman;patron purse 99;diver lie -1");
        y.hours(1);
        y.leave(3);
        for (int p = 0; p < 3; p++) {
            y.set(p, 1, 5);
        }
        Due.is("what one threw who left doesn't count", y.fair(), 1);
    }

    private static void restsMore() {
        Due.says("29: such that nobody, all others so, would GAIN more by the other of these");
        CoinFountain x = Due.told("hoper value 1");
        Due.is("VALUE 1: as good either way", x.rests(), 2);
        x.set(0, 2, 0);
        Due.is("VALUE 0", x.rests(), 1);
        x.set(0, 2, 2);
        Due.is("VALUE 2", x.rests(), 1);
        Due.is("VALUE 2: it throws", x.rest(), 1);
        CoinFountain y = Due.told("hoper;hoper");
        Due.is("none is at rest", y.rests(), 0);
        Due.is("nobody", new CoinFountain().rests(), 1);
    }

    private static void restsPurse() {
        Due.says("29: each 0 or 1 (no more than the PURSE has), the other (if the PURSE has it)");
        CoinFountain x = Due.told("hoper purse 0 value 99");
        Due.is("PURSE 0", x.rests(), 1);
        Due.is("PURSE 0: it throws nothing", x.rest(), 0);
        x.set(0, 1, 1);
        Due.is("PURSE 1", x.rests(), 1);
        Due.is("PURSE 1: it throws", x.rest(), 1);
        x.set(0, 2, 1);
        Due.is("PURSE 1, as good either way", x.rests(), 2);
        x.set(0, 1, 0);
        Due.is("PURSE 0, as good either way, but it can't", x.rests(), 1);
    }

    private static void restsWhatLies() {
        Due.says("29: where it runs for COINS that lie now and all that is thrown");
        CoinFountain x = Due.told("hoper;hoper;hoper");
        int[] rests = {0, 0, 1, 1, 1};
        for (int coins = 0; coins < rests.length; coins++) {
            x.coins(coins);
            Due.is("rests() with " + coins, x.rests(), rests[coins]);
        }
        x.coins(2);
        Due.is("the last throws", x.rest(), 4);
        x.coins(3);
        Due.is("none throws", x.rest(), 0);
        x.coins(999);
        Due.is("none throws to 999", x.rest(), 0);
        x.leave(2);
        x.coins(2);
        Due.is("one who left is not asked", x.rests(), 1);
        Due.is("one who left does not throw", x.rest(), 0);
    }

    private static void restsWhatever() {
        Due.says("29: (whatever KINDS, LAW, DIVER)");
        for (int k = 0; k < 6; k++) {
            for (int law = 0; law < 3; law++) {
                for (int lie : new int[] {-20, 0, 20}) {
                    CoinFountain x = Due.crowd(k, 3);
                    x.coins(2);
                    x.law(law);
                    x.diver(true, lie);
                    Due.is("rests()", x.rests(), 1);
                    Due.is("rest()", x.rest(), 4);
                }
            }
        }
    }

    private static void restsSize() {
        Due.says("29: SIZE: more than 8 PEOPLE");
        CoinFountain x = Due.crowd(1, 8);
        x.coins(7);
        Due.is("rests() of 8", x.rests(), 1);
        x.person(1);
        Due.finds("rests() of 9", x, Due.SIZE, () -> x.rests());
        x.person(1);
        Due.finds("rests() of 10", x, Due.SIZE, () -> x.rests());
        x.leave(0);
        x.leave(0);
        Due.is("rests() of 8 again", x.rests(), 1);
    }

    private static void restLeast() {
        Due.says("30: The least such row as a number (bit p: who stands at PLACE p throws 1)");
        for (int n = 1; n <= 8; n++) {
            CoinFountain x = Due.crowd(1, n);
            x.coins(n - 1);
            Due.is("rest() of " + n, x.rest(), 1 << (n - 1));
            x.set(n - 1, 2, 1);
            Due.is("rest() of " + n + ", the least of two", x.rest(), 0);
            Due.is("rests() of " + n, x.rests(), 2);
        }
        Due.is("of nobody", new CoinFountain().rest(), 0);
    }

    private static void restSize() {
        Due.says("30: SIZE likewise");
        CoinFountain x = Due.crowd(1, 8);
        x.coins(7);
        Due.is("rest() of 8", x.rest(), 128);
        x.person(1);
        Due.finds("rest() of 9", x, Due.SIZE, () -> x.rest());
        x.coins(0);
        Due.finds("rest() of 9 where there is none: SIZE is asked first", x, Due.SIZE, () -> x.rest());
        x.person(1);
        Due.finds("rest() of 10", x, Due.SIZE, () -> x.rest());
    }

    private static void restNone() {
        Due.says("30: NONE");
        for (int n = 2; n <= 8; n++) {
            CoinFountain x = Due.crowd(1, n);
            Due.is("rests() of " + n, x.rests(), 0);
            Due.finds("rest() of " + n, x, Due.NONE, () -> x.rest());
        }
    }
}
