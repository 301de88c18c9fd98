/** The edges that the terms name: the findings and sections 1 and 2. Each method is one sentence. */
public final class EdgeSquareTest {
    public static void main(String[] args) {
        findings();
        setsByBits();
        coins();
        lawAtFirst();
        diverAtFirst();
        hour();
        ran();
        atMostTen();
        under();
        atFirst();
        againAtFirst();
        thinksByGuess();
        thinksByDiver();
        thinksWhenOneThrows();
        shortOf();
        personThrows();
        hoperThrows();
        wisherThrows();
        gentlemanThrows();
        childThrows();
        patronThrows();
        noMoreThanThePurse();
        purseIsFull();
        fountainIsFull();
        orderOfLaws();
        ranAndPails();
        dryHours();
        gainOfPail();
        ifOneThrew();
        Due.end();
    }

    private static void findings() {
        Due.says("FINDINGS: -1000000001 BEYOND .. -1000000007 SIZE (in longs, too)");
        CoinFountain x = Due.crowd(1, 10);
        Due.is("BEYOND", x.person(6), -1000000001L);
        Due.is("FULL", x.person(0), -1000000002L);
        Due.is("KIND", x.as(0, 4), -1000000003L);
        Due.is("NONE", x.undo(), -1000000004L);
        Due.is("STATE", x.gainIf(0, 6), -1000000005L);
        Due.is("MISSING", x.lays(0), -1000000006L);
        Due.is("SIZE", x.rests(), -1000000007L);
        Due.is("MISSING in longs", x.write(0, 0, 1L), -1000000006L);
        Due.is("BEYOND in longs", x.write(4, 0, 1L), -1000000001L);
        for (int which = 0; which <= 6; which++) {
            Due.is("status(" + which + ")", x.status(which), which == 0 || which == 5 ? 2 : 1);
        }
    }

    private static void setsByBits() {
        Due.says("Sets are told by bits");
        for (int p = 0; p < 10; p++) {
            CoinFountain x = Due.crowd(1, 10);
            x.coins(10);
            x.turn(p, 2);
            Due.is("sorry() of the wisher at " + p, x.sorry(), 1 << p);
        }
        CoinFountain all = Due.crowd(2, 10);
        all.coins(10);
        Due.is("sorry() of all 10", all.sorry(), 1023);
    }

    private static void coins() {
        Due.says("COINS lie in the fountain (0 to 999; 0 at first)");
        CoinFountain x = new CoinFountain();
        Due.is("at first", x.now(1), 0);
        Due.is("the most", x.coins(999), 0);
        Due.is("they lie there", x.now(1), 999);
        Due.is("the least", x.coins(0), 999);
        Due.is("none lies there", x.now(1), 0);
    }

    private static void lawAtFirst() {
        Due.says("LAW: 0 (at first), 1, 2");
        CoinFountain x = new CoinFountain();
        Due.is("at first", x.now(2), 0);
        for (int v : new int[] {2, 1, 0}) {
            x.law(v);
            Due.is("LAW", x.now(2), v);
        }
    }

    private static void diverAtFirst() {
        Due.says("DIVER: none (at first), or one who speaks, with a LIE (-20 to 20; 0 at first)");
        CoinFountain x = new CoinFountain();
        Due.is("none at first", x.now(3), 0);
        Due.is("LIE at first", x.now(4), 0);
        for (int lie : new int[] {-20, 20, 0}) {
            x.diver(true, lie);
            Due.is("one who speaks", x.now(3), 1);
            Due.is("LIE", x.now(4), lie);
        }
    }

    private static void hour() {
        Due.says("HOUR: 0 at first (9999 at most)");
        CoinFountain x = new CoinFountain();
        Due.is("at first", x.now(0), 0);
        Due.late(x, 9999);
        Due.finds("one more", x, Due.STATE, () -> x.hours(1));
        Due.is("it stays", x.now(0), 9999);
    }

    private static void ran() {
        Due.says("RAN: minutes in the latest HOUR (0 at first)");
        CoinFountain x = new CoinFountain();
        x.coins(7);
        Due.is("at first, whatever lies there", x.now(5), 0);
        x.hours(1);
        Due.is("in the latest", x.now(5), 7);
        x.coins(3);
        Due.is("coins that come then don't count", x.now(5), 7);
        x.hours(2);
        Due.is("in the latest of two", x.now(5), 0);
    }

    private static void atMostTen() {
        Due.says("PEOPLE stand at PLACES 0, 1, .. (at most 10)");
        CoinFountain x = Due.crowd(0, 9);
        Due.is("a 10th", x.person(1), 9);
        Due.finds("an 11th", x, Due.FULL, () -> x.person(1));
        Due.is("PEOPLE", x.count(0), 10);
        Due.is("the last", x.of(9, 0), 1);
        Due.finds("nobody stands behind", x, Due.BEYOND, () -> x.of(10, 0));
    }

    private static void under() {
        Due.says("KINDS: 1 HOPER, 2 WISHER, 3 GENTLEMAN under PERSON, 4 CHILD under HOPER, 5 PATRON under GENTLEMAN");
        String[] of = {"0", "01", "02", "03", "014", "035"};
        for (int k = 0; k < 6; k++) {
            CoinFountain x = Due.crowd(k, 1);
            for (int as = 0; as < 6; as++) {
                Due.is("a " + k + " as a " + as, x.as(0, as), of[k].indexOf('0' + as) >= 0 ? 3 : Due.KIND);
            }
        }
    }

    private static void atFirst() {
        Due.says("PURSE 5 at first, VALUE 3, GUESS 0, THREW 0, PAILS 0, DRY 0");
        for (int k = 0; k < 6; k++) {
            CoinFountain x = Due.crowd(k, 1);
            int[] due = {k, 5, 3, 0, 0, 0, 0};
            for (int what = 0; what < due.length; what++) {
                Due.is("of(0, " + what + ") of a " + k, x.of(0, what), due[what]);
            }
        }
    }

    /** Whatever held another before, who left or was undone. */
    private static void againAtFirst() {
        Due.says("PURSE 5 at first, VALUE 3, GUESS 0, THREW 0, PAILS 0, DRY 0: of one behind another who left");
        CoinFountain x = Due.told("wisher purse 9 value 9 guess 9");
        x.hours(1);
        x.hours(1);
        x.turn(0, 1);
        x.hours(1);
        x.turn(0, 2);
        x.hours(1);
        x.leave(0);
        x.person(4);
        int[] due = {4, 5, 3, 0, 0, 0, 0};
        for (int what = 0; what < due.length; what++) {
            Due.is("of(0, " + what + ")", x.of(0, what), due[what]);
        }
        Due.is("and by a text", Due.square(x, "gentleman"), 1);
        x.set(1, 1, 1);
        x.set(1, 3, 8);
        x.hours(1);
        x.leave(1);
        Due.is("and by a text again", Due.square(x, "gentleman"), 1);
        due[0] = 3;
        for (int what = 0; what < due.length; what++) {
            Due.is("of(1, " + what + ")", x.of(1, what), due[what]);
        }
    }

    private static void thinksByGuess() {
        Due.says("THINKS: else GUESS");
        CoinFountain x = Due.told("hoper guess 99;hoper;coins 50");
        Due.is("GUESS 99", x.of(0, 7), 99);
        Due.is("GUESS 0", x.of(1, 7), 0);
        x.diver(true, 7);
        Due.is("with a diver it is his word", x.of(0, 7), 57);
        x.diver(false, 7);
        Due.is("GUESS again", x.of(0, 7), 99);
    }

    private static void thinksByDiver() {
        Due.says("THINKS: with a DIVER who speaks: COINS and LIE (0 at least)");
        CoinFountain x = Due.told("hoper guess 5;coins 20");
        int[][] due = {{-20, 0}, {-19, 1}, {0, 20}, {20, 40}};
        for (int[] one : due) {
            x.diver(true, one[0]);
            Due.is("LIE " + one[0], x.of(0, 7), one[1]);
        }
        x.coins(19);
        x.diver(true, -20);
        Due.is("0 at least", x.of(0, 7), 0);
        x.coins(0);
        Due.is("0 at least of none", x.of(0, 7), 0);
        x.coins(999);
        x.diver(true, 20);
        Due.is("there is no most", x.of(0, 7), 1019);
    }

    private static void thinksWhenOneThrows() {
        Due.says("THINKS: COINS and LIE, as they lie when one throws");
        CoinFountain x = Due.told("wisher;wisher;gentleman;gentleman;diver");
        x.hours(1);
        Due.is("2 lie when 2 throws", x.of(2, 4), 1);
        Due.is("3 lie when 3 throws", x.of(3, 4), 1);
        CoinFountain y = Due.told("child;child;person;coins 3;diver");
        Due.is("by all that lies now he would not", y.of(2, 9), 0);
        Due.is("children fished 2, so that 2 are short", y.thrown(2), 0);
        y.turn(1, 1);
        Due.is("a child fished 1, so that 1 is short", y.thrown(2), 1);
    }

    private static void shortOf() {
        Due.says("SHORT of one at PLACE p: p and 1 less what one THINKS (0 at least)");
        CoinFountain x = Due.crowd(1, 10);
        for (int p = 0; p < 10; p++) {
            Due.is("THINKS 0 at " + p, x.of(p, 8), p + 1);
            x.set(p, 3, p);
            Due.is("THINKS p at " + p, x.of(p, 8), 1);
            x.set(p, 3, p + 1);
            Due.is("THINKS p and 1 at " + p, x.of(p, 8), 0);
            x.set(p, 3, p + 2);
            Due.is("THINKS more at " + p, x.of(p, 8), 0);
        }
    }

    private static void personThrows() {
        Due.says("PERSON: 1, if SHORT is 1 and VALUE is 1 or more; else 0");
        CoinFountain x = Due.told("hoper;hoper;person value 1");
        int[][] due = {{0, 0}, {1, 0}, {2, 1}, {3, 0}, {99, 0}};
        for (int[] one : due) {
            x.set(2, 3, one[0]);
            Due.is("GUESS " + one[0] + " at 2", x.of(2, 9), one[1]);
        }
        x.set(2, 3, 2);
        x.set(2, 2, 0);
        Due.is("VALUE 0", x.of(2, 9), 0);
        x.set(2, 2, 99);
        Due.is("VALUE 99", x.of(2, 9), 1);
    }

    private static void hoperThrows() {
        Due.says("HOPER: 0");
        CoinFountain x = Due.told("hoper purse 999 value 99;coins 9");
        Due.is("with coins", x.of(0, 9), 0);
        x.coins(0);
        Due.is("without", x.of(0, 9), 0);
    }

    private static void wisherThrows() {
        Due.says("WISHER: 1");
        CoinFountain x = Due.told("wisher value 0 guess 99;coins 999");
        Due.is("whatever lies there", x.of(0, 9), 1);
    }

    private static void gentlemanThrows() {
        Due.says("GENTLEMAN: SHORT, if that is VALUE at most; else 0");
        CoinFountain x = Due.crowd(3, 10);
        x.set(9, 1, 99);
        int[][] due = {{9, 0}, {10, 10}, {11, 10}};
        for (int[] one : due) {
            x.set(9, 2, one[0]);
            Due.is("VALUE " + one[0] + " for 10", x.of(9, 9), one[1]);
        }
        x.set(9, 3, 10);
        Due.is("nothing is SHORT", x.of(9, 9), 0);
        x.set(9, 2, 0);
        Due.is("nothing is SHORT for VALUE 0", x.of(9, 9), 0);
        x.set(9, 3, 9);
        Due.is("1 is SHORT for VALUE 0", x.of(9, 9), 0);
        x.set(9, 2, 1);
        Due.is("1 is SHORT for VALUE 1", x.of(9, 9), 1);
    }

    private static void childThrows() {
        Due.says("CHILD: -1, if COINS lie there; else 0");
        CoinFountain x = Due.told("child purse 0 guess 99");
        Due.is("no coin, whatever it guesses", x.of(0, 9), 0);
        x.diver(true, 20);
        Due.is("no coin, whatever the diver says", x.of(0, 9), 0);
        x.coins(1);
        Due.is("one coin", x.of(0, 9), -1);
        x.diver(true, -20);
        Due.is("one coin, whatever the diver says", x.of(0, 9), -1);
        x.coins(999);
        Due.is("999 coins", x.of(0, 9), -1);
        x.set(0, 1, 999);
        Due.is("a full PURSE", x.of(0, 9), -1);
        x.hours(1);
        Due.is("THREW below 0: fished out", x.of(0, 4), -1);
        x.hours(1);
        Due.is("THREW of an hour without coins", x.of(0, 4), 0);
    }

    private static void patronThrows() {
        Due.says("PATRON: SHORT as of one at the last PLACE");
        CoinFountain x = Due.told("patron purse 999 value 0");
        Due.is("alone", x.of(0, 9), 1);
        for (int n = 2; n <= 10; n++) {
            x.person(1);
            Due.is("of " + n, x.of(0, 9), n);
        }
        int[][] due = {{9, 1}, {10, 0}, {11, 0}};
        for (int[] one : due) {
            x.set(0, 3, one[0]);
            Due.is("GUESS " + one[0], x.of(0, 9), one[1]);
        }
        x.set(9, 3, 99);
        x.set(0, 3, 4);
        Due.is("by his own GUESS, not of who is last", x.of(0, 9), 6);
        x.move(0, 9);
        Due.is("at the last PLACE himself", x.of(9, 9), 6);
        x.leave(0);
        Due.is("when one left", x.of(8, 9), 5);
    }

    private static void noMoreThanThePurse() {
        Due.says("But no more than the PURSE has");
        for (int k : new int[] {0, 2, 3, 5}) {
            CoinFountain x = Due.crowd(k, 1);
            x.set(0, 1, 1);
            Due.is("PURSE 1 of a " + k, x.of(0, 9), 1);
            x.set(0, 1, 0);
            Due.is("PURSE 0 of a " + k, x.of(0, 9), 0);
        }
        for (int k : new int[] {3, 5}) {
            CoinFountain x = Due.told("hoper;hoper;hoper;hoper");
            x.person(k);
            x.set(4, 2, 9);
            for (int purse = 0; purse <= 7; purse++) {
                x.set(4, 1, purse);
                Due.is("PURSE " + purse + " of a " + k + ", 5 are SHORT", x.of(4, 9), Math.min(5, purse));
            }
        }
    }

    private static void purseIsFull() {
        Due.says("PURSE is less (999 at most; more is lost); THREW is that");
        for (int purse = 997; purse <= 999; purse++) {
            CoinFountain x = Due.told("child purse " + purse + ";coins 5");
            x.hours(1);
            Due.is("PURSE of " + purse, x.of(0, 1), Math.min(999, purse + 1));
            Due.is("THREW", x.of(0, 4), -1);
            Due.is("the coin is out of the fountain", x.now(5), 4);
        }
    }

    private static void fountainIsFull() {
        Due.says("COINS are more by that (999 at most; more is lost); THREW is that");
        for (int coins = 997; coins <= 999; coins++) {
            CoinFountain x = Due.told("wisher;coins " + coins);
            x.hours(1);
            Due.is("RAN of " + coins, x.now(5), Math.min(999, coins + 1));
            Due.is("THREW", x.of(0, 4), 1);
            Due.is("PURSE", x.of(0, 1), 4);
        }
        CoinFountain y = Due.told("patron purse 20;hoper;hoper;hoper;child;child;coins 995");
        y.hours(1);
        Due.is("THREW of the patron", y.of(0, 4), 6);
        Due.is("PURSE of the patron", y.of(0, 1), 14);
        Due.is("RAN: 2 of 6 were lost before 2 were fished out", y.now(5), 997);
        CoinFountain z = Due.told("law 1;patron purse 20;hoper;hoper;hoper;child;child;coins 995");
        z.hours(1);
        Due.is("RAN: none was lost behind those that were fished out", z.now(5), 999);
    }

    /** Of children those fish first who come first: with k coins the first k. */
    private static void orderOfLaws() {
        Due.says("By LAW 0 from PLACE 0 on, by LAW 1 from the last PLACE on, by LAW 2 first odd PLACES, then even ones");
        for (int n = 1; n <= 10; n++) {
            int[] odd = new int[n];
            for (int i = 0; i < n; i++) {
                odd[i] = 2 * i + 1 < n ? 2 * i + 1 : 2 * (i - n / 2);
            }
            for (int k = 0; k <= n; k++) {
                int[] sets = new int[3];
                for (int i = 0; i < k; i++) {
                    sets[0] |= 1 << i;
                    sets[1] |= 1 << (n - 1 - i);
                    sets[2] |= 1 << odd[i];
                }
                for (int law = 0; law < 3; law++) {
                    Due.is("first " + k + " of " + n + " by LAW " + law, fishers(n, k, law), sets[law]);
                }
            }
        }
    }

    private static int fishers(int n, int coins, int law) {
        CoinFountain x = Due.crowd(4, n);
        x.coins(coins);
        x.law(law);
        x.hours(1);
        int set = 0;
        for (int p = 0; p < n; p++) {
            set |= x.of(p, 4) == -1 ? 1 << p : 0;
        }
        return set;
    }

    private static void ranAndPails() {
        Due.says("RAN is how many COINS lie there then; they are gone. Who stands at a PLACE below RAN has a PAIL more, all others are DRY");
        for (int coins = 0; coins <= 12; coins++) {
            CoinFountain x = Due.crowd(1, 10);
            x.coins(coins);
            Due.is("hours(1) of " + coins, x.hours(1), Math.min(10, coins));
            Due.is("RAN of " + coins, x.now(5), coins);
            Due.is("COINS", x.now(1), 0);
            for (int p = 0; p < 10; p++) {
                Due.is("PAILS at " + p + " of " + coins, x.of(p, 5), p < coins ? 1 : 0);
                Due.is("DRY at " + p + " of " + coins, x.of(p, 6), p < coins ? 0 : 1);
            }
            x.hours(1);
            Due.is("DRY of all then", x.now(8), 20 - Math.min(10, coins));
        }
    }

    /** HOUR ends at 9999, so that no more than that can be seen of the 999999. */
    private static void dryHours() {
        Due.says("all others are DRY an hour more (999999 at most). Then HOUR is one more");
        CoinFountain x = Due.crowd(1, 10);
        Due.late(x, 9999);
        Due.is("DRY", x.of(9, 6), 9999);
        Due.is("DRY of all", x.now(8), 99990);
    }

    private static void gainOfPail() {
        Due.says("GAIN of one in the next HOUR: VALUE, if one has a PAIL then (else 0), less THREW then");
        CoinFountain x = Due.told("hoper value 99;wisher value 50;child value 7;hoper value 0;wisher value 9;coins 2");
        // Coins: 2, 3, 2, 2, 3.
        int[] due = {99, 49, 8, 0, -1};
        for (int p = 0; p < due.length; p++) {
            Due.is("gain(" + p + ")", x.gain(p), due[p]);
        }
        x.coins(1);
        Due.is("gain(2) without a PAIL", x.gain(2), 1);
    }

    private static void ifOneThrew() {
        Due.says("IF ONE THREW c (instead of what one WOULD): all others throwing what they WOULD");
        CoinFountain x = Due.told("gentleman;gentleman;gentleman;diver");
        // Each sees what lies there: 1, 1, 1. If 0 threw 0, then 1 throws 2; if 3, nobody has to.
        Due.is("c 0", x.gainIf(0, 0), 3);
        Due.is("c 3", x.gainIf(0, 3), 0);
        Due.is("c 0 of the last", x.gainIf(2, 0), 0);
        CoinFountain y = Due.told("wisher;wisher;coins 999");
        Due.is("instead of what one WOULD, not besides", y.gainIf(0, 0), 3);
        Due.is("also where the coin is lost", y.gainIf(0, 2), 1);
        CoinFountain z = Due.told("child;coins 1");
        Due.is("a child that fishes none", z.gainIf(0, 0), 3);
        Due.is("a child that throws", z.gainIf(0, 1), 2);
    }
}
