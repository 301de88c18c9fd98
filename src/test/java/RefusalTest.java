import java.util.ArrayList;
import java.util.List;

/**
 * The terms: an act that answers a finding changes nothing but status(). Each is asked of one of two fountains to which
 * the same was done; then all that can be seen of both must be the same, sheets, THE TAPE and the image too.
 */
public final class RefusalTest {
    private static final int MOST = Integer.MAX_VALUE;
    private static final int LEAST = Integer.MIN_VALUE;
    private static final int[] NO_PLACES = {-1, 4, 5, 9, 10, LEAST, MOST};
    private static final int[] NO_KINDS = {-1, 6, LEAST, MOST};
    private static final int[] NO_SHEETS = {-1, 4, LEAST, MOST};

    interface Done {
        void to(CoinFountain x);
    }

    interface Asked {
        long of(CoinFountain x);
    }

    public static void main(String[] args) {
        Due.says("one that answers a finding changes nothing but status()");
        row();
        square();
        hours();
        ahead();
        whatToThrow();
        tape();
        sheets();
        copies();
        images();
        Due.says("ON: nothing changes; and what is asked alone changes nothing");
        questions();
        Due.says("these acts name no finding");
        noFinding();
        Due.end();
    }

    /** People at 4 PLACES, in the 4th HOUR, with three sheets, a TAPE and an image of another square. */
    private static void furnish(CoinFountain x) {
        Due.square(x, "patron purse 40 value 7 guess 1;law 1;coins 3;hoper;diver lie -4");
        x.hours(2);
        x.image();
        Due.square(x, "swap 0 1;wisher purse 31 value 9 guess 2;child value 4;law 2;diver lie 3");
        x.hours(1);
        Due.square(x, "coins 6");
        x.sheet(0, 8, 3);
        x.sheet(1, 16, 4);
        x.sheet(2, 64, 2);
        for (int i = 0; i < 9; i++) {
            x.write(i / 4, i % 4, 11 + i);
        }
        Due.feed(x, "gentleman purse 77;law 0");
    }

    private static String seen(CoinFountain x) {
        StringBuilder text = new StringBuilder(Due.all(x));
        text.append(" tape ").append(x.count(1)).append(" sheets");
        for (int s = 0; s < 4; s++) {
            text.append(' ').append(numbers(x, s));
        }
        text.append(" read ").append(x.square()).append(Due.all(x));
        text.append(" kept ").append(x.undo()).append(Due.all(x));
        return text.toString();
    }

    private static List<Long> numbers(CoinFountain x, int s) {
        List<Long> all = new ArrayList<>();
        for (int i = 0; i <= 40; i++) {
            all.add(x.write(s, i, 0));
        }
        return all;
    }

    private static int[] counted(CoinFountain x) {
        int[] all = new int[8];
        for (int which = -1; which <= 6; which++) {
            all[which + 1] = x.status(which);
        }
        return all;
    }

    private static void refused(String call, long finding, Done before, Asked act) {
        CoinFountain x = new CoinFountain();
        CoinFountain twin = new CoinFountain();
        furnish(x);
        furnish(twin);
        before.to(x);
        before.to(twin);
        int[] was = counted(x);
        Due.is(call, act.of(x), finding);
        int[] is = counted(x);
        for (int which = -1; which <= 6; which++) {
            boolean one = which == -1 || which == Due.BEYOND - finding;
            Due.is("status(" + which + ") behind " + call, is[which + 1], was[which + 1] + (one ? 1 : 0));
        }
        Due.same("behind " + call + " all", seen(x), seen(twin));
    }

    private static void beyond(String call, Asked act) {
        refused(call, Due.BEYOND, x -> { }, act);
    }

    private static void row() {
        for (int k : NO_KINDS) {
            beyond("person(" + k + ")", x -> x.person(k));
            beyond("turn(1, " + k + ")", x -> x.turn(1, k));
            beyond("as(1, " + k + ")", x -> x.as(1, k));
        }
        for (int p : NO_PLACES) {
            for (int what = 0; what <= 9; what++) {
                int w = what;
                beyond("of(" + p + ", " + w + ")", x -> x.of(p, w));
            }
            for (int what = 1; what <= 3; what++) {
                int w = what;
                beyond("set(" + p + ", " + w + ", 1)", x -> x.set(p, w, 1));
            }
            beyond("turn(" + p + ", 0)", x -> x.turn(p, 0));
            beyond("as(" + p + ", 0)", x -> x.as(p, 0));
            beyond("move(" + p + ", 0)", x -> x.move(p, 0));
            beyond("move(0, " + p + ")", x -> x.move(0, p));
            beyond("move(" + p + ", " + p + ")", x -> x.move(p, p));
            beyond("leave(" + p + ")", x -> x.leave(p));
        }
        for (int what : new int[] {-1, 10, LEAST, MOST}) {
            beyond("of(0, " + what + ")", x -> x.of(0, what));
        }
        for (int what : new int[] {LEAST, -1, 0, 4, 5, 9, MOST}) {
            beyond("set(0, " + what + ", 1)", x -> x.set(0, what, 1));
        }
        for (int v : new int[] {LEAST, -1, 1000, MOST}) {
            beyond("set(0, 1, " + v + ")", x -> x.set(0, 1, v));
        }
        for (int v : new int[] {LEAST, -1, 100, MOST}) {
            beyond("set(0, 2, " + v + ")", x -> x.set(0, 2, v));
            beyond("set(0, 3, " + v + ")", x -> x.set(0, 3, v));
        }
        refused("as(0, 3) of a hoper", Due.KIND, x -> { }, x -> x.as(0, 3));
        refused("person(0) for an 11th", Due.FULL, RefusalTest::fill, x -> x.person(0));
    }

    private static void fill(CoinFountain x) {
        while (x.count(0) < 10) {
            x.person(1);
        }
    }

    private static void square() {
        for (int v : new int[] {LEAST, -1, 1000, MOST}) {
            beyond("coins(" + v + ")", x -> x.coins(v));
        }
        for (int v : new int[] {LEAST, -1, 3, MOST}) {
            beyond("law(" + v + ")", x -> x.law(v));
        }
        for (int v : new int[] {LEAST, -21, 21, MOST}) {
            beyond("diver(true, " + v + ")", x -> x.diver(true, v));
            beyond("diver(false, " + v + ")", x -> x.diver(false, v));
        }
    }

    private static void hours() {
        for (int n : new int[] {LEAST, -1, 0, 201, MOST}) {
            beyond("hours(" + n + ")", x -> x.hours(n));
        }
        refused("hours(200) at 9800", Due.STATE, x -> Due.late(x, 9800), x -> x.hours(200));
        refused("hours(1) at 9999", Due.STATE, x -> Due.late(x, 9999), x -> x.hours(1));
        for (int what : new int[] {LEAST, -1, 9, MOST}) {
            beyond("now(" + what + ")", x -> x.now(what));
        }
    }

    private static void ahead() {
        for (int p : NO_PLACES) {
            beyond("thrown(" + p + ")", x -> x.thrown(p));
            beyond("gain(" + p + ")", x -> x.gain(p));
            beyond("on(" + p + ", 1)", x -> x.on(p, 1));
        }
        for (int n : new int[] {LEAST, -1, 201, MOST}) {
            beyond("on(0, " + n + ")", x -> x.on(0, n));
        }
        refused("on(0, 200) at 9800", Due.STATE, x -> Due.late(x, 9800), x -> x.on(0, 200));
        refused("empty() at 9800", Due.STATE, x -> Due.late(x, 9800), x -> x.empty());
        refused("empty() where purses stay", Due.NONE, x -> { }, x -> x.empty());
    }

    private static void whatToThrow() {
        for (int p : NO_PLACES) {
            beyond("gainIf(" + p + ", 0)", x -> x.gainIf(p, 0));
            beyond("best(" + p + ")", x -> x.best(p));
            beyond("regret(" + p + ")", x -> x.regret(p));
            beyond("stand(" + p + ")", x -> x.stand(p));
            beyond("kind(" + p + ")", x -> x.kind(p));
        }
        for (int c : new int[] {LEAST, -1, 100, MOST}) {
            beyond("gainIf(2, " + c + ")", x -> x.gainIf(2, c));
        }
        refused("gainIf(0, 6) of a PURSE of 5", Due.STATE, x -> { }, x -> x.gainIf(0, 6));
        refused("rests() of 10", Due.SIZE, RefusalTest::fill, x -> x.rests());
        refused("rest() of 10", Due.SIZE, RefusalTest::fill, x -> x.rest());
        refused("rest() where there is none", Due.NONE, RefusalTest::unrest, x -> x.rest());
    }

    private static void unrest(CoinFountain x) {
        x.coins(0);
        while (x.count(0) > 2) {
            x.leave(2);
        }
        x.set(0, 2, 3);
        x.set(1, 2, 3);
    }

    private static void tape() {
        for (int n : new int[] {LEAST, -1, 0, 5, MOST}) {
            beyond("feed(1, " + n + ")", x -> x.feed(1, n));
        }
        for (int n = 1; n <= 4; n++) {
            int m = n;
            refused("feed(.., " + m + ") with room for one less", Due.FULL, x -> stuff(x, 121 - m), x -> x.feed(0x3b3b3b3b, m));
        }
    }

    private static void stuff(CoinFountain x, int bytes) {
        while (x.count(1) < bytes) {
            x.feed(' ', 1);
        }
    }

    private static void sheets() {
        for (int s : NO_SHEETS) {
            beyond("sheet(" + s + ", 8, 1)", x -> x.sheet(s, 8, 1));
            beyond("sheet(" + s + ", 0, 0)", x -> x.sheet(s, 0, 0));
            beyond("write(" + s + ", 0, 1)", x -> x.write(s, 0, 1));
            beyond("lays(" + s + ")", x -> x.lays(s));
            beyond("book(" + s + ")", x -> x.book(s));
            beyond("read(" + s + ", 1)", x -> x.read(s, 1));
        }
        for (int bits : new int[] {LEAST, -64, -8, -1, 1, 7, 9, 15, 17, 24, 32, 63, 65, 128, MOST}) {
            beyond("sheet(0, " + bits + ", 1)", x -> x.sheet(0, bits, 1));
        }
        for (int bits : new int[] {0, 8, 16, 64}) {
            refused("sheet(0, " + bits + ", -1)", Due.SIZE, x -> { }, x -> x.sheet(0, bits, -1));
            refused("sheet(0, " + bits + ", least)", Due.SIZE, x -> { }, x -> x.sheet(0, bits, LEAST));
            beyond("sheet(0, " + bits + ", 41)", x -> x.sheet(0, bits, 41));
            beyond("sheet(0, " + bits + ", most)", x -> x.sheet(0, bits, MOST));
        }
        for (int i : new int[] {LEAST, -1, 3, 39, 40, MOST}) {
            beyond("write(0, " + i + ", 1)", x -> x.write(0, i, 1));
        }
        refused("write(3, 0, 1)", Due.MISSING, x -> { }, x -> x.write(3, 0, 1));
        refused("lays(3)", Due.MISSING, x -> { }, x -> x.lays(3));
        refused("book(3)", Due.MISSING, x -> { }, x -> x.book(3));
        refused("read(3, 1)", Due.MISSING, x -> { }, x -> x.read(3, 1));
        refused("book(2) at 9960", Due.STATE, x -> Due.late(x, 9960), x -> x.book(2));
        for (int n : new int[] {LEAST, -1, 100, MOST}) {
            beyond("read(0, " + n + ")", x -> x.read(0, n));
        }
    }

    private static void copies() {
        for (int s : NO_SHEETS) {
            beyond("copy(" + s + ", 0, 1, 0, 1)", x -> x.copy(s, 0, 1, 0, 1));
            beyond("copy(1, 0, " + s + ", 0, 1)", x -> x.copy(1, 0, s, 0, 1));
        }
        refused("copy(3, 0, 1, 0, 1)", Due.MISSING, x -> { }, x -> x.copy(3, 0, 1, 0, 1));
        refused("copy(1, 0, 3, 0, 1)", Due.MISSING, x -> { }, x -> x.copy(1, 0, 3, 0, 1));
        refused("copy(0, 0, 1, 0, 1)", Due.KIND, x -> { }, x -> x.copy(0, 0, 1, 0, 1));
        refused("copy(2, 0, 1, 0, 1)", Due.KIND, x -> { }, x -> x.copy(2, 0, 1, 0, 1));
        Done another = x -> x.sheet(3, 16, 2);
        int[][] parts = {
            {-1, 0, 1}, {0, -1, 1}, {0, 0, -1}, {4, 0, 1}, {0, 2, 1}, {0, 0, 3}, {3, 0, 2}, {0, 1, 2}, {5, 0, 0}, {0, 3, 0},
            {MOST, 0, 1}, {0, MOST, 1}, {0, 0, MOST}, {1, 1, MOST}, {MOST, MOST, MOST}, {LEAST, 0, 1}, {0, LEAST, 1}, {0, 0, LEAST},
            {LEAST, LEAST, LEAST}, {LEAST, 0, MOST}, {-1, -1, 2},
        };
        for (int[] part : parts) {
            String call = "copy(1, " + part[0] + ", 3, " + part[1] + ", " + part[2] + ")";
            refused(call, Due.BEYOND, another, x -> x.copy(1, part[0], 3, part[1], part[2]));
        }
    }

    private static void images() {
        refused("undo() where nothing is kept", Due.NONE, x -> x.tear(), x -> x.undo());
        for (int what : new int[] {LEAST, -1, 4, MOST}) {
            beyond("count(" + what + ")", x -> x.count(what));
        }
        for (int which : new int[] {LEAST, -2, 7, MOST}) {
            beyond("status(" + which + ")", x -> x.status(which));
        }
    }

    private static void unchanged(String call, Done act) {
        CoinFountain x = new CoinFountain();
        CoinFountain twin = new CoinFountain();
        furnish(x);
        furnish(twin);
        act.to(x);
        Due.is("status(-1) behind " + call, x.status(-1), twin.status(-1));
        Due.same("behind " + call + " all", seen(x), seen(twin));
    }

    private static void questions() {
        unchanged("of", x -> x.of(1, 9));
        unchanged("as", x -> x.as(1, 0));
        unchanged("now", x -> x.now(6));
        unchanged("runs", x -> x.runs());
        unchanged("thrown", x -> x.thrown(1));
        unchanged("gain", x -> x.gain(1));
        unchanged("all", x -> x.all());
        unchanged("on(1, 0)", x -> x.on(1, 0));
        unchanged("on(1, 200)", x -> x.on(1, 200));
        unchanged("gainIf(1, 5)", x -> x.gainIf(1, 5));
        unchanged("best", x -> x.best(1));
        unchanged("sorry", x -> x.sorry());
        unchanged("regret", x -> x.regret(1));
        unchanged("stand", x -> x.stand(0));
        unchanged("kind", x -> x.kind(2));
        unchanged("lie", x -> x.lie());
        unchanged("word", x -> x.word());
        unchanged("fair", x -> x.fair());
        unchanged("rests", x -> x.rests());
        unchanged("rest", x -> x.rest());
        unchanged("read", x -> x.read(0, 7));
        unchanged("count", x -> x.count(2));
        unchanged("status", x -> x.status(0));
        unchanged("move(2, 2)", x -> x.move(2, 2));
        unchanged("copy of none", x -> x.copy(0, 3, 0, 3, 0));
        CoinFountain y = Due.told("wisher purse 2;hoper purse 0");
        CoinFountain twin = Due.told("wisher purse 2;hoper purse 0");
        Due.is("empty()", y.empty(), 2);
        Due.same("behind empty() all", seen(y), seen(twin));
    }

    private static void noFinding() {
        CoinFountain none = new CoinFountain();
        CoinFountain full = Due.crowd(5, 10);
        Due.late(full, 9999);
        full.coins(999);
        for (CoinFountain x : new CoinFountain[] {none, full}) {
            x.runs();
            x.all();
            x.sorry();
            x.lie();
            x.word();
            x.fair();
            x.wipe();
            x.square();
            x.image();
            x.tear();
            Due.is("status(-1)", x.status(-1), 0);
        }
    }
}
