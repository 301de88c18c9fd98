/** The edges that promises 1 to 11 name. Each method is one sentence. */
public final class EdgeRowTest {
    public static void main(String[] args) {
        nobody();
        personEnd();
        personBeyond();
        personFull();
        ofWhat();
        ofBeyond();
        setWas();
        setBeyond();
        turnWas();
        turnBeyond();
        asBeyond();
        asKind();
        moveAllWays();
        moveBeyond();
        leaveAll();
        leaveBeyond();
        coinsBeyond();
        lawBeyond();
        diverSpoke();
        diverBeyond();
        Due.end();
    }

    private static void nobody() {
        Due.says("1: Nobody in THE ROW; THE TAPE is empty, no image is kept");
        CoinFountain x = new CoinFountain();
        Due.is("PEOPLE", x.count(0), 0);
        Due.is("bytes", x.count(1), 0);
        Due.is("wipe()", x.wipe(), 0);
        Due.is("tear()", x.tear(), 0);
        Due.finds("undo()", x, Due.NONE, () -> x.undo());
        Due.finds("of(0, 0)", x, Due.BEYOND, () -> x.of(0, 0));
        Due.finds("of(-1, 0)", x, Due.BEYOND, () -> x.of(-1, 0));
        CoinFountain y = new CoinFountain();
        y.person(0);
        y.image();
        y.feed('a', 1);
        y.sheet(0, 8, 1);
        y.undo();
        CoinFountain z = new CoinFountain();
        Due.is("PEOPLE of a newer one", z.count(0), 0);
        Due.is("bytes of a newer one", z.count(1), 0);
        Due.is("tear() of a newer one", z.tear(), 0);
        Due.is("sheets of a newer one", z.lays(0), Due.MISSING);
    }

    private static void personEnd() {
        Due.says("2: A new one at the end of THE ROW: the PLACE");
        CoinFountain x = new CoinFountain();
        for (int i = 0; i < 10; i++) {
            Due.is("person", x.person(5 - i % 6), i);
        }
        for (int i = 0; i < 10; i++) {
            Due.is("KIND at " + i, x.of(i, 0), 5 - i % 6);
        }
    }

    private static void personBeyond() {
        Due.says("2: BEYOND: kind");
        CoinFountain x = Due.crowd(0, 3);
        Due.findsOutside("person", x, 0, 5, Due.BEYOND, k -> x.person(k));
        CoinFountain full = Due.crowd(0, 10);
        Due.findsOutside("person where it is FULL", full, 0, 5, Due.BEYOND, k -> full.person(k));
    }

    private static void personFull() {
        Due.says("2: FULL");
        CoinFountain x = Due.crowd(0, 9);
        Due.is("a 10th", x.person(0), 9);
        for (int k = 0; k < 6; k++) {
            int kind = k;
            Due.finds("an 11th", x, Due.FULL, () -> x.person(kind));
        }
        x.leave(4);
        Due.is("a 10th again", x.person(2), 9);
        Due.is("it is that one", x.of(9, 0), 2);
    }

    private static void ofWhat() {
        Due.says("3: what 0 KIND .. 9 WOULD THROW now");
        CoinFountain x = Due.told("hoper;gentleman purse 1 value 2 guess 0;coins 1;diver lie 0");
        x.hours(1);
        // The gentleman saw 1 coin and threw 1; now there is none, 2 are short, and his purse is empty.
        int[] due = {3, 0, 2, 0, 1, 1, 0, 0, 2, 0};
        for (int what = 0; what < due.length; what++) {
            Due.is("of(1, " + what + ")", x.of(1, what), due[what]);
        }
        x.coins(1);
        x.set(1, 1, 9);
        Due.is("THINKS now", x.of(1, 7), 1);
        Due.is("SHORT now", x.of(1, 8), 1);
        Due.is("WOULD THROW now", x.of(1, 9), 1);
    }

    private static void ofBeyond() {
        Due.says("3: BEYOND");
        for (int n : new int[] {0, 1, 10}) {
            CoinFountain x = Due.crowd(2, n);
            for (int what = 0; what <= 9; what++) {
                int w = what;
                Due.findsOutside("of(.., " + w + ")", x, 0, n - 1, Due.BEYOND, p -> x.of(p, w));
            }
            for (int p = 0; p < n; p++) {
                int place = p;
                Due.findsOutside("of(" + p + ", ..)", x, 0, 9, Due.BEYOND, what -> x.of(place, what));
            }
            Due.findsOutside("of both", x, 0, 9, Due.BEYOND, v -> x.of(v < 0 ? v : n, v));
        }
    }

    private static void setWas() {
        Due.says("4: PURSE (what 1), VALUE (2), GUESS (3) becomes v: what it was");
        int[] first = {0, 5, 3, 0};
        int[] most = {0, 999, 99, 99};
        for (int what = 1; what <= 3; what++) {
            CoinFountain x = Due.crowd(2, 10);
            Due.is("to the most", x.set(9, what, most[what]), first[what]);
            Due.is("to 0", x.set(9, what, 0), most[what]);
            Due.is("to 1", x.set(9, what, 1), 0);
            Due.is("to the same", x.set(9, what, 1), 1);
            for (int other = 1; other <= 3; other++) {
                Due.is("what " + other, x.of(9, other), other == what ? 1 : first[other]);
                Due.is("of another, what " + other, x.of(8, other), first[other]);
            }
        }
    }

    private static void setBeyond() {
        Due.says("4: BEYOND");
        int[] most = {0, 999, 99, 99};
        CoinFountain x = Due.crowd(2, 2);
        for (int what = 1; what <= 3; what++) {
            int w = what;
            Due.findsOutside("set(1, " + w + ", ..)", x, 0, most[w], Due.BEYOND, v -> x.set(1, w, v));
            Due.findsOutside("set(.., " + w + ", 1)", x, 0, 1, Due.BEYOND, p -> x.set(p, w, 1));
        }
        Due.findsOutside("set(1, .., 1)", x, 1, 3, Due.BEYOND, what -> x.set(1, what, 1));
        for (int what = 4; what <= 9; what++) {
            int w = what;
            Due.finds("set(1, " + w + ", 0)", x, Due.BEYOND, () -> x.set(1, w, 0));
        }
        CoinFountain none = new CoinFountain();
        Due.finds("set(0, 1, 1) of nobody", none, Due.BEYOND, () -> none.set(0, 1, 1));
    }

    private static void turnWas() {
        Due.says("5: One becomes of another KIND: what it was");
        CoinFountain x = Due.told("hoper;wisher purse 9 value 8 guess 7;hoper");
        int was = 2;
        for (int kind : new int[] {0, 5, 1, 4, 3, 3, 2}) {
            Due.is("turn(1, " + kind + ")", x.turn(1, kind), was);
            Due.is("KIND", x.of(1, 0), kind);
            was = kind;
        }
        int[] due = {2, 9, 8, 7, 0, 0, 0};
        for (int what = 0; what < due.length; what++) {
            Due.is("of(1, " + what + ")", x.of(1, what), due[what]);
        }
        Due.is("others stay", x.of(0, 0) * 10 + x.of(2, 0), 11);
    }

    private static void turnBeyond() {
        Due.says("5: BEYOND");
        for (int n : new int[] {0, 1, 10}) {
            CoinFountain x = Due.crowd(2, n);
            Due.findsOutside("turn(.., 0) of " + n, x, 0, n - 1, Due.BEYOND, p -> x.turn(p, 0));
            Due.findsOutside("turn(0, ..) of " + n, x, 0, 5, Due.BEYOND, k -> x.turn(0, k));
        }
    }

    private static void asBeyond() {
        Due.says("6: BEYOND: no such one, kind");
        for (int n : new int[] {0, 1, 10}) {
            CoinFountain x = Due.crowd(2, n);
            for (int k = 0; k < 6; k++) {
                int kind = k;
                Due.findsOutside("as(.., " + kind + ") of " + n, x, 0, n - 1, Due.BEYOND, p -> x.as(p, kind));
            }
            Due.findsOutside("as(0, ..) of " + n, x, 0, 5, Due.BEYOND, k -> x.as(0, k));
        }
    }

    private static void asKind() {
        Due.says("6: KIND: it isn't of that kind, nor of one under it");
        CoinFountain x = Due.told("patron value 99;child value 0");
        for (int k : new int[] {1, 2, 4}) {
            Due.finds("a patron as " + k, x, Due.KIND, () -> x.as(0, k));
        }
        for (int k : new int[] {2, 3, 5}) {
            Due.finds("a child as " + k, x, Due.KIND, () -> x.as(1, k));
        }
        for (int k : new int[] {0, 3, 5}) {
            Due.is("VALUE of a patron as " + k, x.as(0, k), 99);
        }
        for (int k : new int[] {0, 1, 4}) {
            Due.is("VALUE of a child as " + k, x.as(1, k), 0);
        }
        x.turn(0, 3);
        Due.finds("a gentleman is no patron", x, Due.KIND, () -> x.as(0, 5));
        x.turn(0, 1);
        Due.finds("a hoper is no child", x, Due.KIND, () -> x.as(0, 4));
        x.turn(0, 0);
        for (int k = 1; k < 6; k++) {
            int kind = k;
            Due.finds("a person is only that", x, Due.KIND, () -> x.as(0, kind));
        }
    }

    private static void moveAllWays() {
        Due.says("7: One goes to another PLACE; those between close up: by how many PLACES");
        for (int from = 0; from < 10; from++) {
            for (int to = 0; to < 10; to++) {
                CoinFountain x = Due.crowd(1, 10);
                java.util.List<Integer> row = new java.util.ArrayList<>();
                for (int p = 0; p < 10; p++) {
                    x.set(p, 1, 100 + p);
                    row.add(100 + p);
                }
                row.add(to, row.remove(from));
                Due.is("move(" + from + ", " + to + ")", x.move(from, to), Math.abs(from - to));
                for (int p = 0; p < 10; p++) {
                    Due.is("at " + p + " behind move(" + from + ", " + to + ")", x.of(p, 1), row.get(p));
                }
            }
        }
    }

    private static void moveBeyond() {
        Due.says("7: BEYOND");
        for (int n : new int[] {0, 1, 4, 10}) {
            CoinFountain x = Due.crowd(2, n);
            Due.findsOutside("move(.., 0) of " + n, x, 0, n - 1, Due.BEYOND, p -> x.move(p, 0));
            Due.findsOutside("move(0, ..) of " + n, x, 0, n - 1, Due.BEYOND, p -> x.move(0, p));
            Due.findsOutside("move to itself of " + n, x, 0, n - 1, Due.BEYOND, p -> x.move(p, p));
        }
        CoinFountain alone = Due.crowd(2, 1);
        Due.is("alone to its own PLACE", alone.move(0, 0), 0);
    }

    private static void leaveAll() {
        Due.says("8: One leaves; those behind close up: PAILS");
        for (int place = 0; place < 10; place++) {
            CoinFountain x = Due.crowd(1, 10);
            for (int p = 0; p < 10; p++) {
                x.set(p, 1, 100 + p);
            }
            x.coins(5);
            x.hours(1);
            Due.is("leave(" + place + ")", x.leave(place), place < 5 ? 1 : 0);
            Due.is("PEOPLE", x.count(0), 9);
            for (int p = 0; p < 9; p++) {
                Due.is("at " + p + " behind leave(" + place + ")", x.of(p, 1), 100 + (p < place ? p : p + 1));
            }
            Due.is("PAILS of those who stay", x.now(7), place < 5 ? 4 : 5);
        }
        CoinFountain y = Due.crowd(1, 1);
        Due.is("the only one", y.leave(0), 0);
        Due.is("PEOPLE", y.count(0), 0);
        Due.is("VALUES", y.count(2), 0);
        Due.is("PURSES", y.now(6), 0);
    }

    private static void leaveBeyond() {
        Due.says("8: BEYOND");
        for (int n : new int[] {0, 1, 4, 10}) {
            CoinFountain x = Due.crowd(2, n);
            Due.findsOutside("leave of " + n, x, 0, n - 1, Due.BEYOND, p -> x.leave(p));
        }
    }

    private static void coinsBeyond() {
        Due.says("9: COINS become v: what they were. BEYOND");
        CoinFountain x = new CoinFountain();
        Due.findsOutside("coins", x, 0, 999, Due.BEYOND, v -> x.coins(v));
        Due.is("coins(999)", x.coins(999), 0);
        Due.findsOutside("coins", x, 0, 999, Due.BEYOND, v -> x.coins(v));
        Due.is("coins(0)", x.coins(0), 999);
        Due.is("coins(1)", x.coins(1), 0);
        Due.is("COINS", x.now(1), 1);
    }

    private static void lawBeyond() {
        Due.says("10: LAW becomes v: what it was. BEYOND");
        CoinFountain x = new CoinFountain();
        Due.findsOutside("law", x, 0, 2, Due.BEYOND, v -> x.law(v));
        Due.is("law(2)", x.law(2), 0);
        Due.findsOutside("law", x, 0, 2, Due.BEYOND, v -> x.law(v));
        Due.is("law(0)", x.law(0), 2);
    }

    private static void diverSpoke() {
        Due.says("11: A DIVER speaks with a LIE, or none does (the LIE is 0 then): 1 if one spoke before, else 0");
        CoinFountain x = new CoinFountain();
        Due.is("none, then none", x.diver(false, -20), 0);
        Due.is("LIE", x.now(4), 0);
        Due.is("none, then one", x.diver(true, -20), 0);
        Due.is("LIE", x.now(4), -20);
        Due.is("one, then one", x.diver(true, 20), 1);
        Due.is("LIE", x.now(4), 20);
        Due.is("one, then none", x.diver(false, 20), 1);
        Due.is("none speaks", x.now(3), 0);
        Due.is("the LIE is 0 then", x.now(4), 0);
    }

    private static void diverBeyond() {
        Due.says("11: BEYOND: lie (also if none speaks)");
        CoinFountain x = new CoinFountain();
        Due.findsOutside("diver(true, ..)", x, -20, 20, Due.BEYOND, v -> x.diver(true, v));
        Due.findsOutside("diver(false, ..)", x, -20, 20, Due.BEYOND, v -> x.diver(false, v));
        x.diver(true, 3);
        Due.findsOutside("diver(true, ..)", x, -20, 20, Due.BEYOND, v -> x.diver(true, v));
        Due.findsOutside("diver(false, ..)", x, -20, 20, Due.BEYOND, v -> x.diver(false, v));
        Due.is("one speaks yet", x.now(3), 1);
    }
}
