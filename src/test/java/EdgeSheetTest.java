/** The edges that section 3 and promises 34 to 39 name. Each method is one sentence. */
public final class EdgeSheetTest {
    private static final int MOST = Integer.MAX_VALUE;
    private static final int LEAST = Integer.MIN_VALUE;

    public static void main(String[] args) {
        missingAtFirst();
        sheetAllZero();
        sheetMissing();
        sheetBeyond();
        sheetBelow();
        sheetAbove();
        writeLowestBits();
        writeBeyondSheet();
        writeMissing();
        writeBeyondNumber();
        copyAsTheyAllWere();
        copyOfNone();
        copyBeyondSheet();
        copyMissing();
        copyKind();
        copyBeyond();
        copyBelow();
        laysRange();
        laysForNone();
        laysFindings();
        bookAll();
        bookLowestBits();
        bookFindings();
        bookState();
        readWays();
        readKnown();
        readCoins();
        readFindings();
        Due.end();
    }

    /** How many numbers a sheet has: as many as can be written. */
    private static int size(CoinFountain x, int s) {
        int n = 0;
        while (n <= 40) {
            long was = x.write(s, n, 0);
            if (was == Due.BEYOND || was == Due.MISSING) {
                return n;
            }
            x.write(s, n, was);
            n++;
        }
        return n;
    }

    private static void put(CoinFountain x, int s, int bits, long... numbers) {
        x.sheet(s, bits, numbers.length);
        for (int i = 0; i < numbers.length; i++) {
            x.write(s, i, numbers[i]);
        }
    }

    private static void missingAtFirst() {
        Due.says("3. SHEETS 0 to 3 are rows of at most 40 numbers of 8, 16 or 64 bits, or MISSING (at first)");
        CoinFountain x = new CoinFountain();
        for (int s = 0; s < 4; s++) {
            int t = s;
            Due.finds("write(" + s + ", 0, 1)", x, Due.MISSING, () -> x.write(t, 0, 1));
        }
        for (int s = 0; s < 4; s++) {
            Due.is("sheet(" + s + ", 8, 40)", x.sheet(s, 8, 40), 40);
            Due.is("numbers", size(x, s), 40);
            x.write(s, 39, 10 + s);
        }
        for (int s = 0; s < 4; s++) {
            Due.is("each has its own numbers", x.write(s, 39, 0), 10 + s);
        }
    }

    private static void sheetAllZero() {
        Due.says("34: A sheet has n numbers, all 0, of 8, 16 or 64 bits: n");
        CoinFountain x = new CoinFountain();
        for (int bits : new int[] {8, 16, 64}) {
            for (int n : new int[] {40, 1, 0, 39, 2, 40}) {
                Due.is("sheet(1, " + bits + ", " + n + ")", x.sheet(1, bits, n), n);
                Due.is("numbers", size(x, 1), n);
                for (int i = 0; i < n; i++) {
                    Due.is("number " + i, x.write(1, i, 77), 0);
                }
            }
        }
    }

    private static void sheetMissing() {
        Due.says("34: bits 0: it is MISSING: (0 if it is MISSING)");
        for (int n : new int[] {0, 1, 40}) {
            CoinFountain x = new CoinFountain();
            Due.is("of one that is MISSING", x.sheet(2, 0, n), 0);
            put(x, 2, 16, 7, 8, 9);
            Due.is("sheet(2, 0, " + n + ")", x.sheet(2, 0, n), 0);
            Due.finds("write", x, Due.MISSING, () -> x.write(2, 0, 1));
            Due.finds("lays", x, Due.MISSING, () -> x.lays(2));
            Due.is("sheet(2, 16, 3)", x.sheet(2, 16, 3), 3);
            Due.same("all 0", Due.sheet(x, 2, 3), "[0, 0, 0]");
        }
    }

    private static void sheetBeyond() {
        Due.says("34: BEYOND: no such sheet, other bits");
        CoinFountain x = new CoinFountain();
        put(x, 0, 8, 5);
        for (int bits : new int[] {0, 8, 16, 64}) {
            Due.findsOutside("sheet(.., " + bits + ", 1)", x, 0, 3, Due.BEYOND, s -> x.sheet(s, bits, 1));
            Due.findsOutside("sheet(.., " + bits + ", -1)", x, 0, 3, Due.BEYOND, s -> x.sheet(s, bits, -1));
        }
        for (int bits = -70; bits <= 140; bits++) {
            int b = bits;
            if (bits != 0 && bits != 8 && bits != 16 && bits != 64) {
                Due.finds("sheet(0, " + bits + ", 1)", x, Due.BEYOND, () -> x.sheet(0, b, 1));
                Due.finds("sheet(0, " + bits + ", -1): BEYOND is asked first", x, Due.BEYOND, () -> x.sheet(0, b, -1));
            }
        }
        Due.findsOutside("sheet(0, .., 1)", x, 0, 64, Due.BEYOND, bits -> x.sheet(0, bits, 1));
        Due.same("it stays", Due.sheet(x, 0, 1), "[5]");
    }

    private static void sheetBelow() {
        Due.says("34: SIZE: n is below 0 (also with bits 0)");
        CoinFountain x = new CoinFountain();
        put(x, 0, 8, 5);
        for (int bits : new int[] {0, 8, 16, 64}) {
            Due.findsBelow("sheet(0, " + bits + ", ..)", x, 0, Due.SIZE, n -> x.sheet(0, bits, n));
        }
        Due.same("it stays", Due.sheet(x, 0, 1), "[5]");
    }

    private static void sheetAbove() {
        Due.says("34: BEYOND: n is above 40 (also with bits 0)");
        CoinFountain x = new CoinFountain();
        put(x, 0, 8, 5);
        for (int bits : new int[] {0, 8, 16, 64}) {
            Due.findsAbove("sheet(0, " + bits + ", ..)", x, 40, Due.BEYOND, n -> x.sheet(0, bits, n));
        }
        Due.same("it stays", Due.sheet(x, 0, 1), "[5]");
        Due.is("40", x.sheet(0, 8, 40), 40);
    }

    private static void writeLowestBits() {
        Due.says("35: Number i of a sheet becomes v (its lowest bits): what it was");
        CoinFountain x = new CoinFountain();
        x.sheet(0, 8, 1);
        x.sheet(1, 16, 1);
        x.sheet(2, 64, 1);
        long[][] of8 = {{0, 0}, {127, 127}, {128, -128}, {255, -1}, {256, 0}, {257, 1}, {-1, -1}, {-128, -128}, {-129, 127}, {-256, 0},
            {Long.MAX_VALUE, -1}, {Long.MIN_VALUE, 0}, {1L << 32, 0}, {(1L << 32) + 5, 5}};
        long[][] of16 = {{127, 127}, {128, 128}, {32767, 32767}, {32768, -32768}, {65535, -1}, {65536, 0}, {65537, 1}, {-1, -1},
            {-32768, -32768}, {-32769, 32767}, {-65536, 0}, {Long.MAX_VALUE, -1}, {Long.MIN_VALUE, 0}, {(1L << 32) + 5, 5}};
        long[] of64 = {0, -1, Long.MAX_VALUE, Long.MIN_VALUE, 1L << 32, Integer.MIN_VALUE, Due.BEYOND};
        for (long[] one : of8) {
            x.write(0, 0, one[0]);
            Due.is("8 bits of " + one[0], x.write(0, 0, 9), one[1]);
        }
        for (long[] one : of16) {
            x.write(1, 0, one[0]);
            Due.is("16 bits of " + one[0], x.write(1, 0, 9), one[1]);
        }
        for (long v : of64) {
            x.write(2, 0, v);
            Due.is("64 bits of " + v, x.write(2, 0, 9), v);
        }
        Due.is("a number like a finding is none", x.status(-1), 0);
    }

    private static void writeBeyondSheet() {
        Due.says("35: BEYOND: no such sheet");
        CoinFountain x = new CoinFountain();
        Due.findsOutside("write(.., 0, 1)", x, 0, 3, Due.BEYOND, s -> x.write(s, 0, 1));
        Due.findsOutside("write(.., -1, 1)", x, 0, 3, Due.BEYOND, s -> x.write(s, -1, 1));
    }

    private static void writeMissing() {
        Due.says("35: MISSING");
        CoinFountain x = new CoinFountain();
        for (int i : new int[] {0, -1, 40, LEAST, MOST}) {
            Due.finds("write(3, " + i + ", 1): MISSING is asked first", x, Due.MISSING, () -> x.write(3, i, 1));
        }
    }

    private static void writeBeyondNumber() {
        Due.says("35: BEYOND: no such number");
        for (int bits : new int[] {8, 16, 64}) {
            for (int n : new int[] {0, 1, 40}) {
                CoinFountain x = new CoinFountain();
                x.sheet(3, bits, n);
                Due.findsOutside("write(3, .., 1) of " + n, x, 0, n - 1, Due.BEYOND, i -> x.write(3, i, 1));
                if (n > 0) {
                    Due.is("the last", x.write(3, n - 1, 1), 0);
                    Due.is("the first", x.write(3, 0, 2), n == 1 ? 1 : 0);
                }
            }
        }
    }

    private static void copyAsTheyAllWere() {
        Due.says("36: n numbers of a sheet from one on come to another one from one on (as they all were): n");
        for (int bits : new int[] {8, 16, 64}) {
            for (int from = 0; from <= 6; from++) {
                for (int to = 0; to <= 6; to++) {
                    for (int n = 0; n <= 6 - Math.max(from, to); n++) {
                        within(bits, from, to, n);
                    }
                }
            }
        }
        CoinFountain y = new CoinFountain();
        put(y, 0, 64, Long.MIN_VALUE, -1, 7);
        put(y, 3, 64, 1, 2, 3, 4);
        Due.is("to another", y.copy(0, 0, 3, 1, 3), 3);
        Due.same("there", Due.sheet(y, 3, 4), "[1, " + Long.MIN_VALUE + ", -1, 7]");
        Due.same("here", Due.sheet(y, 0, 3), "[" + Long.MIN_VALUE + ", -1, 7]");
        Due.is("all 40", sheets40().copy(0, 0, 1, 0, 40), 40);
    }

    private static CoinFountain sheets40() {
        CoinFountain x = new CoinFountain();
        x.sheet(0, 16, 40);
        x.sheet(1, 16, 40);
        return x;
    }

    private static void within(int bits, int from, int to, int n) {
        CoinFountain x = new CoinFountain();
        put(x, 1, bits, 10, 11, 12, 13, 14, 15);
        java.util.List<Long> due = new java.util.ArrayList<>(java.util.List.of(10L, 11L, 12L, 13L, 14L, 15L));
        for (int i = 0; i < n; i++) {
            due.set(to + i, 10L + from + i);
        }
        Due.is("copy(1, " + from + ", 1, " + to + ", " + n + ")", x.copy(1, from, 1, to, n), n);
        Due.same("as they all were", Due.sheet(x, 1, 6), due.toString());
    }

    private static void copyOfNone() {
        Due.says("36: n numbers: none");
        CoinFountain x = new CoinFountain();
        put(x, 0, 8, 1, 2);
        x.sheet(1, 8, 0);
        Due.is("of an empty sheet", x.copy(1, 0, 0, 0, 0), 0);
        Due.is("to an empty sheet", x.copy(0, 2, 1, 0, 0), 0);
        Due.is("at the end of both", x.copy(0, 2, 0, 2, 0), 0);
        Due.finds("one of an empty sheet", x, Due.BEYOND, () -> x.copy(1, 0, 0, 0, 1));
        Due.finds("one to an empty sheet", x, Due.BEYOND, () -> x.copy(0, 0, 1, 0, 1));
        Due.same("it stays", Due.sheet(x, 0, 2), "[1, 2]");
    }

    private static void copyBeyondSheet() {
        Due.says("36: BEYOND: no such sheet (either)");
        CoinFountain x = new CoinFountain();
        put(x, 0, 8, 1, 2);
        Due.findsOutside("copy(.., 0, 0, 0, 1)", x, 0, 3, Due.BEYOND, s -> x.copy(s, 0, 0, 0, 1));
        Due.findsOutside("copy(0, 0, .., 0, 1)", x, 0, 3, Due.BEYOND, s -> x.copy(0, 0, s, 0, 1));
        Due.findsOutside("copy(3, 0, .., 0, 1): BEYOND is asked before MISSING", x, 0, 3, Due.BEYOND, s -> x.copy(3, 0, s, 0, 1));
        Due.findsOutside("copy(.., 0, 3, 0, 1): BEYOND is asked before MISSING", x, 0, 3, Due.BEYOND, s -> x.copy(s, 0, 3, 0, 1));
    }

    private static void copyMissing() {
        Due.says("36: MISSING: one is");
        CoinFountain x = new CoinFountain();
        put(x, 0, 8, 1, 2);
        Due.finds("from", x, Due.MISSING, () -> x.copy(1, 0, 0, 0, 1));
        Due.finds("to", x, Due.MISSING, () -> x.copy(0, 0, 1, 0, 1));
        Due.finds("both", x, Due.MISSING, () -> x.copy(2, 0, 1, 0, 1));
        Due.finds("the same", x, Due.MISSING, () -> x.copy(3, 0, 3, 0, 0));
        Due.finds("MISSING is asked before BEYOND", x, Due.MISSING, () -> x.copy(0, -1, 1, -1, -1));
    }

    private static void copyKind() {
        Due.says("36: KIND: they are not of as many bits");
        int[] bits = {8, 16, 64};
        for (int a : bits) {
            for (int b : bits) {
                CoinFountain x = new CoinFountain();
                put(x, 0, a, 1, 2);
                put(x, 1, b, 3, 4);
                if (a == b) {
                    Due.is("as many", x.copy(0, 0, 1, 0, 2), 2);
                } else {
                    Due.finds("not as many", x, Due.KIND, () -> x.copy(0, 0, 1, 0, 2));
                    Due.finds("none of them", x, Due.KIND, () -> x.copy(0, 0, 1, 0, 0));
                    Due.finds("KIND is asked before BEYOND", x, Due.KIND, () -> x.copy(0, -1, 1, 3, MOST));
                    Due.same("it stays", Due.sheet(x, 1, 2), "[3, 4]");
                }
            }
        }
    }

    private static void copyBeyond() {
        Due.says("36: BEYOND: one has not so many");
        CoinFountain x = new CoinFountain();
        put(x, 0, 16, 1, 2, 3, 4, 5);
        put(x, 1, 16, 6, 7, 8);
        Due.is("all that fit", x.copy(0, 2, 1, 0, 3), 3);
        Due.findsAbove("copy(0, 2, 1, 0, ..)", x, 3, Due.BEYOND, n -> x.copy(0, 2, 1, 0, n));
        Due.findsAbove("copy(1, 1, 0, 0, ..)", x, 2, Due.BEYOND, n -> x.copy(1, 1, 0, 0, n));
        Due.findsAbove("copy(0, .., 1, 0, 3)", x, 2, Due.BEYOND, from -> x.copy(0, from, 1, 0, 3));
        Due.findsAbove("copy(0, 0, 1, .., 2)", x, 1, Due.BEYOND, to -> x.copy(0, 0, 1, to, 2));
        Due.findsAbove("none from behind", x, 5, Due.BEYOND, from -> x.copy(0, from, 1, 0, 0));
        Due.findsAbove("none to behind", x, 3, Due.BEYOND, to -> x.copy(0, 0, 1, to, 0));
        Due.finds("a sum that wraps around", x, Due.BEYOND, () -> x.copy(0, MOST, 1, 0, MOST));
        Due.finds("a sum that wraps around", x, Due.BEYOND, () -> x.copy(0, 1, 1, 1, MOST));
        Due.finds("a sum that wraps around", x, Due.BEYOND, () -> x.copy(0, 0, 1, MOST, MOST));
        Due.same("it stays", Due.sheet(x, 1, 3), "[3, 4, 5]");
        CoinFountain y = sheets40();
        Due.finds("41 of 40", y, Due.BEYOND, () -> y.copy(0, 0, 1, 0, 41));
        Due.finds("40 of 39", y, Due.BEYOND, () -> y.copy(0, 1, 1, 0, 40));
    }

    private static void copyBelow() {
        Due.says("36: BEYOND: or from, to or n is below 0");
        CoinFountain x = new CoinFountain();
        put(x, 0, 16, 1, 2, 3, 4, 5);
        Due.findsBelow("from", x, 0, Due.BEYOND, from -> x.copy(0, from, 0, 1, 1));
        Due.findsBelow("to", x, 0, Due.BEYOND, to -> x.copy(0, 1, 0, to, 1));
        Due.findsBelow("n", x, 0, Due.BEYOND, n -> x.copy(0, 3, 0, 3, n));
        Due.findsBelow("from, of none", x, 0, Due.BEYOND, from -> x.copy(0, from, 0, 0, 0));
        Due.findsBelow("to, of none", x, 0, Due.BEYOND, to -> x.copy(0, 0, 0, to, 0));
        Due.findsBelow("all", x, 0, Due.BEYOND, v -> x.copy(0, v, 0, v, v));
        Due.same("it stays", Due.sheet(x, 0, 5), "[1, 2, 3, 4, 5]");
    }

    private static void laysRange() {
        Due.says("37: Numbers of a sheet become PURSES (those that aren't 0 to 999 are left out): how many came");
        long[][] due = {{0, 0}, {1, 1}, {999, 999}, {1000, 5}, {-1, 5}, {1L << 32, 5}, {(1L << 32) + 7, 5}, {Long.MAX_VALUE, 5}, {Long.MIN_VALUE, 5}};
        for (long[] one : due) {
            CoinFountain x = Due.crowd(1, 2);
            put(x, 0, 64, 5, one[0]);
            Due.is("lays of " + one[0], x.lays(0), one[1] == 5 ? 1 : 2);
            Due.is("PURSE of " + one[0], x.of(1, 1), one[1]);
        }
        CoinFountain y = Due.crowd(1, 3);
        put(y, 0, 8, 127, 128, 255);
        Due.is("8 bits, of which those above 127 are below 0", y.lays(0), 1);
        Due.is("PURSE", y.of(0, 1), 127);
        put(y, 0, 16, 32767, 999, 65535);
        Due.is("16 bits", y.lays(0), 1);
        Due.is("PURSE", y.of(1, 1), 999);
    }

    private static void laysForNone() {
        Due.says("37: PURSES at PLACES 0, 1, .. (those that stand for none are left out)");
        CoinFountain x = Due.crowd(1, 2);
        x.sheet(0, 16, 40);
        Due.is("40 for 2", x.lays(0), 2);
        Due.is("PURSES", x.now(6), 0);
        x.sheet(0, 16, 0);
        Due.is("none for 2", x.lays(0), 0);
        put(x, 0, 16, 8);
        Due.is("1 for 2", x.lays(0), 1);
        Due.is("PURSE of the other", x.of(1, 1), 0);
        CoinFountain none = new CoinFountain();
        none.sheet(0, 16, 40);
        Due.is("40 for nobody", none.lays(0), 0);
        none.person(1);
        Due.is("who comes then has 5", none.of(0, 1), 5);
        CoinFountain ten = Due.crowd(1, 10);
        ten.sheet(0, 16, 40);
        for (int i = 0; i < 40; i++) {
            ten.write(0, i, 100 + i);
        }
        Due.is("40 for 10", ten.lays(0), 10);
        Due.is("PURSE of the last", ten.of(9, 1), 109);
    }

    private static void laysFindings() {
        Due.says("37: BEYOND: no such sheet. MISSING");
        CoinFountain x = Due.crowd(1, 2);
        Due.findsOutside("lays", x, 0, 3, Due.BEYOND, s -> x.lays(s));
        for (int s = 0; s < 4; s++) {
            int t = s;
            Due.finds("lays(" + s + ")", x, Due.MISSING, () -> x.lays(t));
        }
    }

    private static void bookAll() {
        Due.says("38: how long it runs in the next HOURS, one behind the other, comes to a sheet, as many as it has numbers: how many");
        CoinFountain x = Due.told("wisher purse 39;wisher purse 2;coins 900");
        for (int n : new int[] {0, 1, 2, 40}) {
            x.sheet(0, 64, n);
            String before = Due.all(x);
            Due.is("book of " + n, x.book(0), n);
            Due.same("nothing else changes", Due.all(x), before);
            for (int i = 0; i < n; i++) {
                Due.is("hour " + i, x.write(0, i, 0), i == 0 ? 902 : i == 1 ? 2 : i < 39 ? 1 : 0);
            }
        }
        CoinFountain none = new CoinFountain();
        none.coins(999);
        none.sheet(3, 16, 40);
        Due.is("book of nobody", none.book(3), 40);
        Due.is("the first", none.write(3, 0, 0), 999);
        Due.is("the last", none.write(3, 39, 0), 0);
    }

    private static void bookLowestBits() {
        Due.says("38: comes to a sheet (of 8 bits: the lowest)");
        int[][] due = {{127, 127}, {128, -128}, {255, -1}, {256, 0}, {999, -25}};
        for (int[] one : due) {
            CoinFountain x = new CoinFountain();
            x.coins(one[0]);
            x.sheet(0, 8, 1);
            x.sheet(1, 16, 1);
            Due.is("book", x.book(0) + x.book(1), 2);
            Due.is("8 bits of " + one[0], x.write(0, 0, 0), one[1]);
            Due.is("16 bits of " + one[0], x.write(1, 0, 0), one[0]);
        }
    }

    private static void bookFindings() {
        Due.says("38: BEYOND: no such sheet. MISSING");
        CoinFountain x = Due.crowd(1, 2);
        Due.findsOutside("book", x, 0, 3, Due.BEYOND, s -> x.book(s));
        for (int s = 0; s < 4; s++) {
            int t = s;
            Due.finds("book(" + s + ")", x, Due.MISSING, () -> x.book(t));
        }
        Due.late(x, 9999);
        Due.finds("BEYOND is asked before STATE", x, Due.BEYOND, () -> x.book(4));
        Due.finds("MISSING is asked before STATE", x, Due.MISSING, () -> x.book(0));
    }

    private static void bookState() {
        Due.says("38: STATE: HOUR is above 9959");
        CoinFountain x = Due.crowd(1, 2);
        x.sheet(0, 16, 40);
        x.sheet(1, 16, 0);
        Due.late(x, 9959);
        Due.is("40 at 9959", x.book(0), 40);
        Due.is("none at 9959", x.book(1), 0);
        x.hours(1);
        x.write(0, 0, 5);
        Due.finds("40 at 9960", x, Due.STATE, () -> x.book(0));
        Due.finds("none at 9960", x, Due.STATE, () -> x.book(1));
        Due.is("it stays", x.write(0, 0, 5), 5);
        Due.late(x, 9999);
        Due.finds("40 at 9999", x, Due.STATE, () -> x.book(0));
    }

    private static void readWays() {
        Due.says("39: in how many ways it RUNS n minutes (0 to 99)");
        for (int people = 0; people <= 10; people++) {
            CoinFountain x = Due.crowd(4, people);
            x.sheet(0, 8, 0);
            long ways = 1;
            for (int n = 0; n <= 99; n++) {
                Due.is("read(0, " + n + ") of " + people, x.read(0, n), ways);
                ways = ways * (people - n) / (n + 1);
            }
        }
        CoinFountain poor = Due.told("hoper purse 0;child purse 0");
        poor.sheet(0, 8, 0);
        Due.is("with all throwing 0 or 1, whatever their PURSES", poor.read(0, 2), 1);
    }

    private static void readKnown() {
        Due.says("39: numbers of a sheet tell what one knows of them (0, 1; other numbers, or none: nothing)");
        CoinFountain x = Due.crowd(1, 3);
        for (long other : new long[] {2, -1, 1L << 32, (1L << 32) + 1, Long.MIN_VALUE, Long.MAX_VALUE}) {
            put(x, 0, 64, 1, other, 1);
            int[] due = {0, 0, 1, 1, 0};
            for (int n = 0; n < due.length; n++) {
                Due.is("1, " + other + ", 1: " + n, x.read(0, n), due[n]);
            }
        }
        put(x, 0, 8, 0);
        int[] none = {1, 2, 1, 0};
        put(x, 1, 16, 1);
        int[] one = {0, 1, 2, 1};
        put(x, 2, 64, 0, 0, 1, 1, 1, 1, 1, 1, 1, 1, 1, 1);
        int[] all = {0, 1, 0, 0};
        put(x, 3, 8, 255, 257, 256);
        // 8 bits: -1, 1, 0.
        int[] cut = {0, 1, 1, 0};
        for (int n = 0; n < 4; n++) {
            Due.is("0 throws nothing: " + n, x.read(0, n), none[n]);
            Due.is("0 throws: " + n, x.read(1, n), one[n]);
            Due.is("more numbers than people: " + n, x.read(2, n), all[n]);
            Due.is("numbers of 8 bits: " + n, x.read(3, n), cut[n]);
        }
        CoinFountain nobody = new CoinFountain();
        put(nobody, 0, 8, 1, 1);
        Due.is("nobody", nobody.read(0, 0), 1);
        Due.is("nobody, 2", nobody.read(0, 2), 0);
        CoinFountain ten = Due.crowd(1, 10);
        ten.sheet(0, 8, 40);
        Due.is("all of 10 throw nothing", ten.read(0, 0), 1);
        Due.is("one more", ten.read(0, 1), 0);
    }

    private static void readCoins() {
        Due.says("39: COINS that lie there now count");
        CoinFountain x = Due.crowd(1, 2);
        x.sheet(0, 8, 0);
        x.coins(97);
        int[] due = {0, 1, 2, 1};
        for (int n = 96; n <= 99; n++) {
            Due.is("97 coins: " + n, x.read(0, n), due[n - 96]);
        }
        x.coins(99);
        Due.is("99 coins: 98", x.read(0, 98), 0);
        Due.is("99 coins: 99", x.read(0, 99), 1);
        x.coins(100);
        Due.is("100 coins: 99", x.read(0, 99), 0);
        x.coins(999);
        Due.is("999 coins: 99", x.read(0, 99), 0);
    }

    private static void readFindings() {
        Due.says("39: BEYOND: no such sheet. MISSING. BEYOND: n");
        CoinFountain x = Due.crowd(1, 2);
        x.sheet(0, 8, 1);
        Due.findsOutside("read(.., 1)", x, 0, 3, Due.BEYOND, s -> x.read(s, 1));
        Due.findsOutside("read(.., -1)", x, 0, 3, Due.BEYOND, s -> x.read(s, -1));
        for (int n : new int[] {-1, 0, 100, LEAST, MOST}) {
            Due.finds("read(1, " + n + "): MISSING is asked before BEYOND of n", x, Due.MISSING, () -> x.read(1, n));
        }
        Due.findsOutside("read(0, ..)", x, 0, 99, Due.BEYOND, n -> x.read(0, n));
    }
}
