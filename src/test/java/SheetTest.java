/** Promises 34 to 39: sheets. */
public final class SheetTest {
    public static void main(String[] args) {
        sheet();
        write();
        copy();
        lays();
        book();
        read();
        Due.end();
    }

    private static void sheet() {
        CoinFountain x = new CoinFountain();
        for (int bits : new int[] {8, 16, 64}) {
            Due.is("sheet(3, " + bits + ", 40)", x.sheet(3, bits, 40), 40);
            x.write(3, 39, 7);
            Due.is("sheet again", x.sheet(3, bits, 40), 40);
            Due.is("all are 0", x.write(3, 39, 1), 0);
            Due.is("sheet(3, " + bits + ", 0)", x.sheet(3, bits, 0), 0);
            Due.finds("write to one of none", x, Due.BEYOND, () -> x.write(3, 0, 1));
        }
        x.sheet(3, 8, 2);
        x.write(3, 0, 5);
        Due.is("sheet(3, 0, 40)", x.sheet(3, 0, 40), 0);
        Due.finds("write to one that is gone", x, Due.MISSING, () -> x.write(3, 0, 1));
        Due.is("sheet(3, 0, 0)", x.sheet(3, 0, 0), 0);
        x.sheet(0, 8, 3);
        x.write(0, 1, 9);
        for (int bits : new int[] {7, -8, 1, 32, 15, 17, 65}) {
            Due.finds("sheet(0, " + bits + ", 1)", x, Due.BEYOND, () -> x.sheet(0, bits, 1));
        }
        Due.finds("sheet(-1, 8, 1)", x, Due.BEYOND, () -> x.sheet(-1, 8, 1));
        Due.finds("sheet(4, 8, 1)", x, Due.BEYOND, () -> x.sheet(4, 8, 1));
        Due.finds("sheet(4, 8, -1): BEYOND is asked first", x, Due.BEYOND, () -> x.sheet(4, 8, -1));
        Due.finds("sheet(0, 9, -1): BEYOND is asked first", x, Due.BEYOND, () -> x.sheet(0, 9, -1));
        Due.finds("sheet(0, 8, -1)", x, Due.SIZE, () -> x.sheet(0, 8, -1));
        Due.finds("sheet(0, 0, -1)", x, Due.SIZE, () -> x.sheet(0, 0, -1));
        Due.finds("sheet(0, 0, least)", x, Due.SIZE, () -> x.sheet(0, 0, Integer.MIN_VALUE));
        Due.finds("sheet(0, 16, 41)", x, Due.BEYOND, () -> x.sheet(0, 16, 41));
        Due.finds("sheet(0, 0, 41)", x, Due.BEYOND, () -> x.sheet(0, 0, 41));
        Due.same("the sheet stays", Due.sheet(x, 0, 3), "[0, 9, 0]");
    }

    private static void write() {
        CoinFountain x = new CoinFountain();
        x.sheet(0, 8, 2);
        x.sheet(1, 16, 2);
        x.sheet(2, 64, 2);
        long[] given = {127, 128, 255, 256, -1, 32767, 32768, 65536 + 7, Long.MIN_VALUE, Long.MAX_VALUE};
        long[] of8 = {127, -128, -1, 0, -1, -1, 0, 7, 0, -1};
        long[] of16 = {127, 128, 255, 256, -1, 32767, -32768, 7, 0, -1};
        for (int i = 0; i < given.length; i++) {
            x.write(0, 1, given[i]);
            x.write(1, 1, given[i]);
            x.write(2, 1, given[i]);
            Due.is("8 bits of " + given[i], x.write(0, 1, 0), of8[i]);
            Due.is("16 bits of " + given[i], x.write(1, 1, 0), of16[i]);
            Due.is("64 bits of " + given[i], x.write(2, 1, 0), given[i]);
        }
        Due.is("the other stays", x.write(0, 0, 4), 0);
        Due.finds("write(0, -1, 1)", x, Due.BEYOND, () -> x.write(0, -1, 1));
        Due.finds("write(0, 2, 1)", x, Due.BEYOND, () -> x.write(0, 2, 1));
        Due.finds("write(-1, 0, 1)", x, Due.BEYOND, () -> x.write(-1, 0, 1));
        Due.finds("write(4, 0, 1)", x, Due.BEYOND, () -> x.write(4, 0, 1));
        Due.finds("write(3, 99, 1): MISSING is asked first", x, Due.MISSING, () -> x.write(3, 99, 1));
        x.write(2, 0, Due.BEYOND);
        int counted = x.status(-1);
        Due.is("a number that looks like a finding", x.write(2, 0, 0), Due.BEYOND);
        Due.is("is none", x.status(-1), counted);
    }

    private static void copy() {
        CoinFountain x = new CoinFountain();
        x.sheet(0, 16, 5);
        x.sheet(1, 16, 3);
        x.sheet(2, 8, 5);
        for (int i = 0; i < 5; i++) {
            x.write(0, i, 10 + i);
        }
        Due.is("copy(0, 2, 1, 0, 3)", x.copy(0, 2, 1, 0, 3), 3);
        Due.same("it came", Due.sheet(x, 1, 3), "[12, 13, 14]");
        Due.is("copy(0, 0, 0, 1, 4)", x.copy(0, 0, 0, 1, 4), 4);
        Due.same("as they all were", Due.sheet(x, 0, 5), "[10, 10, 11, 12, 13]");
        Due.is("copy(0, 1, 0, 0, 4)", x.copy(0, 1, 0, 0, 4), 4);
        Due.same("as they all were", Due.sheet(x, 0, 5), "[10, 11, 12, 13, 13]");
        Due.is("copy of none", x.copy(0, 5, 1, 3, 0), 0);
        Due.finds("copy(4, ..)", x, Due.BEYOND, () -> x.copy(4, 0, 3, 0, 1));
        Due.finds("copy(-1, ..)", x, Due.BEYOND, () -> x.copy(-1, 0, 0, 0, 1));
        Due.finds("copy to 4", x, Due.BEYOND, () -> x.copy(3, 0, 4, 0, 1));
        Due.finds("copy to -1", x, Due.BEYOND, () -> x.copy(0, 0, -1, 0, 1));
        Due.finds("copy from one that is MISSING", x, Due.MISSING, () -> x.copy(3, -1, 0, 0, 1));
        Due.finds("copy to one that is MISSING", x, Due.MISSING, () -> x.copy(0, 0, 3, 0, -1));
        Due.finds("copy of other bits", x, Due.KIND, () -> x.copy(0, -1, 2, 0, 99));
        Due.finds("copy from -1", x, Due.BEYOND, () -> x.copy(0, -1, 1, 0, 1));
        Due.finds("copy to -1", x, Due.BEYOND, () -> x.copy(0, 0, 1, -1, 1));
        Due.finds("copy of -1", x, Due.BEYOND, () -> x.copy(0, 1, 1, 1, -1));
        Due.finds("copy of too many there", x, Due.BEYOND, () -> x.copy(0, 0, 1, 0, 4));
        Due.finds("copy of too many here", x, Due.BEYOND, () -> x.copy(1, 1, 0, 0, 3));
        Due.finds("copy of none behind the end", x, Due.BEYOND, () -> x.copy(1, 4, 0, 0, 0));
        int most = Integer.MAX_VALUE;
        Due.finds("copy beyond all", x, Due.BEYOND, () -> x.copy(0, 1, 1, 1, most));
        Due.finds("copy from beyond all", x, Due.BEYOND, () -> x.copy(0, most, 1, 0, 1));
        Due.finds("copy to beyond all", x, Due.BEYOND, () -> x.copy(0, 0, 1, most, 1));
        Due.same("nothing came", Due.sheet(x, 0, 5), "[10, 11, 12, 13, 13]");
        Due.same("nothing came", Due.sheet(x, 1, 3), "[12, 13, 14]");
    }

    private static void lays() {
        CoinFountain x = Due.told("person;person;person;person");
        x.sheet(0, 16, 6);
        long[] given = {999, 1000, -1, 0, 7, 8};
        for (int i = 0; i < given.length; i++) {
            x.write(0, i, given[i]);
        }
        Due.is("lays(0)", x.lays(0), 2);
        int[] due = {999, 5, 5, 0};
        for (int p = 0; p < 4; p++) {
            Due.is("PURSE at " + p, x.of(p, 1), due[p]);
        }
        x.sheet(1, 64, 1);
        x.write(1, 0, (1L << 32) + 4);
        Due.is("lays(1) of a number beyond ints", x.lays(1), 0);
        Due.is("PURSE", x.of(0, 1), 999);
        x.write(1, 0, 4);
        Due.is("lays(1)", x.lays(1), 1);
        Due.is("PURSE", x.of(0, 1), 4);
        Due.finds("lays(2)", x, Due.MISSING, () -> x.lays(2));
        Due.finds("lays(4)", x, Due.BEYOND, () -> x.lays(4));
        Due.finds("lays(-1)", x, Due.BEYOND, () -> x.lays(-1));
    }

    private static void book() {
        CoinFountain x = Due.told("wisher purse 2;wisher purse 1;hoper;coins 900");
        x.sheet(0, 64, 5);
        x.sheet(1, 8, 2);
        String before = Due.all(x);
        Due.is("book(0)", x.book(0), 5);
        Due.same("the book", Due.sheet(x, 0, 5), "[902, 1, 0, 0, 0]");
        Due.is("book(1)", x.book(1), 2);
        Due.same("the book of 8 bits", Due.sheet(x, 1, 2), "[-122, 1]");
        Due.same("nothing else changes", Due.all(x), before);
        Due.finds("book(2)", x, Due.MISSING, () -> x.book(2));
        Due.finds("book(4)", x, Due.BEYOND, () -> x.book(4));
        Due.finds("book(-1)", x, Due.BEYOND, () -> x.book(-1));
    }

    private static void read() {
        CoinFountain x = Due.told("person purse 0;hoper;wisher;child;patron");
        x.sheet(0, 8, 0);
        int[] ways = {1, 5, 10, 10, 5, 1, 0};
        for (int n = 0; n < ways.length; n++) {
            Due.is("read(0, " + n + ") knowing nothing", x.read(0, n), ways[n]);
        }
        x.coins(2);
        Due.is("read(0, 1): COINS count", x.read(0, 1), 0);
        Due.is("read(0, 4): COINS count", x.read(0, 4), 10);
        x.sheet(1, 64, 7);
        long[] known = {1, 0, 2, -1, 1L << 32, 1, 1};
        for (int i = 0; i < known.length; i++) {
            x.write(1, i, known[i]);
        }
        int[] left = {0, 0, 0, 1, 3, 3, 1, 0};
        for (int n = 0; n < left.length; n++) {
            Due.is("read(1, " + n + ")", x.read(1, n), left[n]);
        }
        x.coins(99);
        Due.is("read(0, 99)", x.read(0, 99), 1);
        x.coins(999);
        Due.is("read(0, 99) with 999", x.read(0, 99), 0);
        Due.finds("read(0, 100)", x, Due.BEYOND, () -> x.read(0, 100));
        Due.finds("read(0, -1)", x, Due.BEYOND, () -> x.read(0, -1));
        Due.finds("read(2, 100): MISSING is asked first", x, Due.MISSING, () -> x.read(2, 100));
        Due.finds("read(4, 1)", x, Due.BEYOND, () -> x.read(4, 1));
        Due.finds("read(-1, 1)", x, Due.BEYOND, () -> x.read(-1, 1));
    }
}
