/** Promises 40 to 44: images, count, status. */
public final class ImageTest {
    public static void main(String[] args) {
        image();
        tear();
        count();
        status();
        Due.end();
    }

    private static void image() {
        CoinFountain x = Due.told("wisher purse 9 value 8 guess 7;hoper;child;coins 3;law 1;diver lie -2");
        Due.finds("undo() of nothing", x, Due.NONE, () -> x.undo());
        x.hours(2);
        x.coins(6);
        x.sheet(0, 8, 2);
        String before = Due.all(x);
        Due.is("image()", x.image(), 1);
        x.hours(3);
        x.coins(1);
        x.law(2);
        x.diver(false, 0);
        x.set(0, 1, 1);
        x.set(0, 2, 2);
        x.set(0, 3, 3);
        x.turn(0, 5);
        x.move(0, 2);
        x.leave(0);
        x.person(4);
        x.person(4);
        x.write(0, 0, 5);
        x.person(9);
        int counted = x.status(-1);
        Due.is("undo()", x.undo(), 3);
        Due.same("all as it was kept", Due.all(x), before);
        Due.is("a sheet stays as it is", x.write(0, 0, 5), 5);
        Due.is("status() stays as it is", x.status(-1), counted);
        x.leave(0);
        x.set(0, 1, 77);
        Due.is("undo() again", x.undo(), 3);
        Due.same("all as it was kept, which stays", Due.all(x), before);
        Due.feed(x, "law");
        Due.is("undo()", x.undo(), 3);
        Due.is("THE TAPE stays as it is", x.count(1), 3);
        x.wipe();
        x.leave(2);
        x.image();
        x.leave(0);
        Due.is("undo() to what was kept latest", x.undo(), 2);
    }

    private static void tear() {
        CoinFountain x = Due.told("person");
        Due.is("tear() of nothing", x.tear(), 0);
        x.image();
        x.image();
        x.leave(0);
        Due.is("tear()", x.tear(), 1);
        Due.is("tear() again", x.tear(), 0);
        Due.finds("undo()", x, Due.NONE, () -> x.undo());
        Due.is("PEOPLE", x.count(0), 0);
        x.image();
        Due.is("undo() to nobody", x.undo(), 0);
    }

    private static void count() {
        CoinFountain x = Due.told("wisher value 9;wisher value 90;child");
        x.hours(1);
        Due.feed(x, "silent");
        int[] due = {3, 6, 102, 1};
        for (int what = 0; what < due.length; what++) {
            Due.is("count(" + what + ")", x.count(what), due[what]);
        }
        Due.finds("count(4)", x, Due.BEYOND, () -> x.count(4));
        Due.finds("count(-1)", x, Due.BEYOND, () -> x.count(-1));
        x.leave(0);
        x.leave(0);
        Due.is("count(3) of the child", x.count(3), -1);
    }

    private static void status() {
        CoinFountain x = Due.told("hoper;hoper;hoper;hoper;hoper;hoper;hoper;hoper;hoper");
        x.person(9);
        x.feed(0, 0);
        x.as(0, 4);
        x.undo();
        x.undo();
        x.undo();
        x.set(0, 1, 0);
        x.gainIf(0, 1);
        x.gainIf(0, 1);
        for (int i = 0; i < 5; i++) {
            x.lays(0);
        }
        for (int i = 0; i < 6; i++) {
            x.rests();
        }
        x.person(0);
        for (int i = 0; i < 7; i++) {
            x.person(0);
        }
        int[] due = {2, 7, 1, 3, 2, 5, 6};
        int sum = 0;
        for (int which = 0; which < due.length; which++) {
            Due.is("status(" + which + ")", x.status(which), due[which]);
            sum += due[which];
        }
        Due.is("status(-1)", x.status(-1), sum);
        Due.is("status(7)", x.status(7), Due.BEYOND);
        Due.is("status(0), with that", x.status(0), 3);
        Due.is("status(-2)", x.status(-2), Due.BEYOND);
        Due.is("status(-1), with that", x.status(-1), sum + 2);
        x.image();
        x.person(9);
        x.undo();
        Due.is("status(-1), which undo() takes not back", x.status(-1), sum + 3);
    }
}
