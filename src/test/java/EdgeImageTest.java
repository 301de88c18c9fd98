/** The edges that promises 40 to 44 name. Each method is one sentence. */
public final class EdgeImageTest {
    public static void main(String[] args) {
        imageOfAll();
        imageOfNobody();
        imageNotTape();
        undoLatest();
        undoStays();
        undoNone();
        tearEdges();
        countEdges();
        countBeyond();
        statusEach();
        statusUndo();
        statusBeyond();
        many();
        Due.end();
    }

    private static void imageOfAll() {
        Due.says("40: All that section 1 tells is kept: 1");
        CoinFountain x = Due.told("wisher purse 9 value 8 guess 7;child;hoper;coins 5;law 1;diver lie -3");
        x.hours(1);
        x.coins(4);
        String before = Due.all(x);
        int ran = x.now(5);
        Due.is("image()", x.image(), 1);
        x.hours(2);
        x.coins(9);
        x.law(2);
        x.diver(true, 20);
        for (int what = 1; what <= 3; what++) {
            x.set(0, what, 50);
        }
        x.turn(0, 5);
        x.move(0, 2);
        Due.holds("RAN is another", x.now(5) != ran);
        Due.is("undo()", x.undo(), 3);
        Due.same("all", Due.all(x), before);
        Due.is("HOUR", x.now(0), 1);
        Due.is("RAN", x.now(5), ran);
        x.diver(false, 0);
        x.undo();
        Due.is("DIVER", x.now(3), 1);
        Due.is("LIE", x.now(4), -3);
        while (x.count(0) > 0) {
            x.leave(0);
        }
        Due.is("undo() when all left", x.undo(), 3);
        Due.same("all", Due.all(x), before);
        while (x.count(0) < 10) {
            x.person(5);
        }
        Due.is("undo() when others came", x.undo(), 3);
        Due.same("all", Due.all(x), before);
        Due.square(x, "swap 0 2;silent;coins 1");
        Due.is("undo() of a text", x.undo(), 3);
        Due.same("all", Due.all(x), before);
        CoinFountain ten = Due.crowd(2, 10);
        Due.is("image() of 10", ten.image(), 1);
        ten.leave(9);
        Due.is("undo() to 10", ten.undo(), 10);
        Due.is("PURSES", ten.now(6), 50);
    }

    private static void imageOfNobody() {
        Due.says("40: All that section 1 tells: nobody");
        CoinFountain x = new CoinFountain();
        Due.is("image()", x.image(), 1);
        x.person(0);
        x.coins(3);
        Due.is("undo()", x.undo(), 0);
        Due.is("PEOPLE", x.count(0), 0);
        Due.is("COINS", x.now(1), 0);
        Due.is("tear()", x.tear(), 1);
    }

    private static void imageNotTape() {
        Due.says("40: (THE TAPE not); nor sheets");
        CoinFountain x = new CoinFountain();
        Due.feed(x, "coins 7");
        x.sheet(0, 8, 1);
        x.write(0, 0, 1);
        x.image();
        x.wipe();
        Due.feed(x, "law 2");
        x.write(0, 0, 2);
        x.sheet(1, 16, 3);
        x.undo();
        Due.is("bytes", x.count(1), 5);
        Due.is("square()", x.square(), 1);
        Due.is("LAW", x.now(2), 2);
        Due.is("COINS", x.now(1), 0);
        Due.is("a sheet", x.write(0, 0, 0), 2);
        Due.is("a sheet that came", x.write(1, 2, 0), 0);
    }

    private static void undoLatest() {
        Due.says("41: It becomes what was kept latest: how many PEOPLE");
        CoinFountain x = new CoinFountain();
        for (int n = 0; n <= 10; n++) {
            x.image();
            Due.is("undo() to " + n, x.undo(), n);
            if (n < 10) {
                x.person(n % 6);
                Due.is("undo() to what was kept", x.undo(), n);
                x.person(n % 6);
            }
        }
    }

    private static void undoStays() {
        Due.says("41: (which stays)");
        CoinFountain x = Due.told("wisher purse 3;hoper");
        x.image();
        for (int i = 0; i < 5; i++) {
            x.hours(2);
            x.leave(0);
            Due.is("undo()", x.undo(), 2);
            Due.is("PURSE", x.of(0, 1), 3);
            Due.is("HOUR", x.now(0), 0);
        }
        Due.late(x, 9999);
        x.undo();
        Due.is("hours go again", x.hours(200), 3);
    }

    private static void undoNone() {
        Due.says("41: NONE: nothing is kept");
        CoinFountain x = Due.crowd(2, 2);
        Due.finds("at first", x, Due.NONE, () -> x.undo());
        x.image();
        x.tear();
        Due.finds("when it is torn", x, Due.NONE, () -> x.undo());
        x.image();
        Due.is("when one is kept again", x.undo(), 2);
    }

    private static void tearEdges() {
        Due.says("42: Nothing is kept: 1 if something was, else 0");
        CoinFountain x = Due.crowd(2, 2);
        Due.is("nothing was", x.tear(), 0);
        x.image();
        x.image();
        x.image();
        String before = Due.all(x);
        Due.is("something was", x.tear(), 1);
        Due.is("nothing is behind it", x.tear(), 0);
        Due.same("it stays", Due.all(x), before);
        x.image();
        x.undo();
        Due.is("undo() takes it not", x.tear(), 1);
    }

    private static void countEdges() {
        Due.says("43: 0 PEOPLE, 1 bytes of THE TAPE, 2 VALUES of all together, 3 what all THREW together");
        CoinFountain none = new CoinFountain();
        for (int what = 0; what <= 3; what++) {
            Due.is("count(" + what + ") of nobody", none.count(what), 0);
        }
        CoinFountain x = Due.crowd(2, 10);
        for (int p = 0; p < 10; p++) {
            x.set(p, 2, 99);
        }
        for (int i = 0; i < 30; i++) {
            x.feed(0, 4);
        }
        x.hours(1);
        int[] due = {10, 120, 990, 10};
        for (int what = 0; what <= 3; what++) {
            Due.is("count(" + what + ") of 10", x.count(what), due[what]);
        }
        x.leave(9);
        x.leave(0);
        due = new int[] {8, 120, 792, 8};
        for (int what = 0; what <= 3; what++) {
            Due.is("count(" + what + ") of 8 who stayed", x.count(what), due[what]);
        }
        CoinFountain y = Due.crowd(4, 10);
        y.coins(999);
        y.hours(1);
        Due.is("what children fished out", y.count(3), -10);
    }

    private static void countBeyond() {
        Due.says("43: BEYOND: another what");
        CoinFountain x = Due.crowd(2, 2);
        Due.findsOutside("count", x, 0, 3, Due.BEYOND, what -> x.count(what));
    }

    private static void statusEach() {
        Due.says("44: How many acts answered a finding ever: which -1: all, 0 to 6: BEYOND to SIZE");
        Due.Act[] acts = new Due.Act[7];
        CoinFountain x = Due.crowd(1, 10);
        acts[0] = () -> x.now(9);
        acts[1] = () -> x.person(0);
        acts[2] = () -> x.as(0, 5);
        acts[3] = () -> x.undo();
        acts[4] = () -> x.gainIf(0, 9);
        acts[5] = () -> x.lays(0);
        acts[6] = () -> x.rest();
        for (int which = 0; which < 7; which++) {
            for (int i = 0; i <= which; i++) {
                Due.is("an act", acts[which].answer(), Due.BEYOND - which);
            }
        }
        for (int which = 0; which < 7; which++) {
            Due.is("status(" + which + ")", x.status(which), which + 1);
        }
        Due.is("status(-1)", x.status(-1), 28);
        Due.is("status() counts not itself", x.status(-1), 28);
        Due.square(x, "?");
        Due.is("a FAULT is none", x.status(-1), 28);
    }

    private static void statusUndo() {
        Due.says("44: (undo() takes none back)");
        CoinFountain x = Due.crowd(1, 1);
        x.person(7);
        x.image();
        x.person(7);
        x.leave(4);
        x.undo();
        Due.is("status(-1)", x.status(-1), 3);
        Due.is("status(0)", x.status(0), 3);
        x.tear();
        Due.is("tear() takes none back", x.status(-1), 3);
        x.undo();
        Due.is("status(3)", x.status(3), 1);
        Due.is("status(-1)", x.status(-1), 4);
    }

    private static void statusBeyond() {
        Due.says("44: BEYOND (counted from then on): another one");
        CoinFountain x = new CoinFountain();
        Due.is("status(7)", x.status(7), Due.BEYOND);
        Due.is("status(0)", x.status(0), 1);
        Due.is("status(-2)", x.status(-2), Due.BEYOND);
        Due.is("status(-1)", x.status(-1), 2);
        Due.findsOutside("status", x, -1, 6, Due.BEYOND, which -> x.status(which));
    }

    private static void many() {
        Due.says("An object is used for at most 512 calls");
        CoinFountain x = Due.crowd(5, 10);
        for (int i = 10; i < 511; i++) {
            Due.is("call " + i, x.now(9), Due.BEYOND);
        }
        Due.is("the 512th", x.status(-1), 501);
    }
}
