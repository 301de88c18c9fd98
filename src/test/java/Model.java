import java.util.ArrayList;
import java.util.Arrays;
import java.util.List;
import java.util.Map;
import java.util.TreeMap;
import java.util.regex.Matcher;
import java.util.regex.Pattern;

/** The document told a second time, in another way (values that never change, a list of tokens), to compare with. */
final class Model {
    record One(int kind, int purse, int value, int guess, int threw, int pails, int dry) {
        One with(int what, int v) {
            return new One(what == 0 ? v : kind, what == 1 ? v : purse, what == 2 ? v : value, what == 3 ? v : guess,
                what == 4 ? v : threw, what == 5 ? v : pails, what == 6 ? v : dry);
        }

        int get(int what) {
            return new int[] {kind, purse, value, guess, threw, pails, dry}[what];
        }
    }

    record World(int coins, int law, boolean speaks, int lie, int hour, int ran, List<One> row) {
        World row(List<One> next) {
            return new World(coins, law, speaks, lie, hour, ran, List.copyOf(next));
        }

        World coins(int next) {
            return new World(next, law, speaks, lie, hour, ran, row);
        }

        World law(int next) {
            return new World(coins, next, speaks, lie, hour, ran, row);
        }

        World diver(boolean who, int next) {
            return new World(coins, law, who, who ? next : 0, hour, ran, row);
        }

        World at(int p, One one) {
            List<One> next = new ArrayList<>(row);
            next.set(p, one);
            return row(next);
        }

        World moved(int from, int to) {
            List<One> next = new ArrayList<>(row);
            next.add(to, next.remove(from));
            return row(next);
        }

        World swapped(int a, int b) {
            return at(a, row.get(b)).at(b, row.get(a));
        }

        World joined(int kind) {
            List<One> next = new ArrayList<>(row);
            next.add(new One(kind, 5, 3, 0, 0, 0, 0));
            return row(next);
        }

        World without(int p) {
            List<One> next = new ArrayList<>(row);
            next.remove(p);
            return row(next);
        }

        int thinks(int p) {
            if (!speaks) {
                return row.get(p).guess;
            }
            return coins + lie < 0 ? 0 : coins + lie;
        }

        int would(int p) {
            One one = row.get(p);
            int lack = p + 1 > thinks(p) ? p + 1 - thinks(p) : 0;
            int lackOfLast = row.size() > thinks(p) ? row.size() - thinks(p) : 0;
            int amount = 0;
            if (one.kind == 0 && lack == 1 && one.value > 0) {
                amount = 1;
            } else if (one.kind == 2) {
                amount = 1;
            } else if (one.kind == 3 && lack <= one.value) {
                amount = lack;
            } else if (one.kind == 4 && coins != 0) {
                amount = -1;
            } else if (one.kind == 5) {
                amount = lackOfLast;
            }
            return amount > one.purse ? one.purse : amount;
        }

        List<Integer> order() {
            List<Integer> places = new ArrayList<>();
            if (law == 1) {
                for (int p = row.size() - 1; p >= 0; p--) {
                    places.add(p);
                }
                return places;
            }
            for (int p = 0; p < row.size(); p++) {
                if (law == 0 || p % 2 == 1) {
                    places.add(p);
                }
            }
            for (int p = 0; p < row.size() && law == 2; p += 2) {
                places.add(p);
            }
            return places;
        }

        World hour(int who, int c) {
            World w = this;
            for (int p : order()) {
                int amount = p == who ? c : w.would(p);
                One one = w.row.get(p);
                int left = one.purse - amount;
                int lie = w.coins + amount;
                w = w.at(p, one.with(1, left > 999 ? 999 : left).with(4, amount)).coins(lie > 999 ? 999 : lie);
            }
            int run = w.coins;
            for (int p = 0; p < w.row.size(); p++) {
                One one = w.row.get(p);
                int what = p < run ? 5 : 6;
                w = w.at(p, one.with(what, one.get(what) + 1));
            }
            return new World(0, law, speaks, lie, hour + 1, run, w.row);
        }

        World hours(int n) {
            World w = this;
            for (int i = 0; i < n; i++) {
                w = w.hour(-1, 0);
            }
            return w;
        }

        int sum(int what) {
            int all = 0;
            for (One one : row) {
                all += one.get(what);
            }
            return all;
        }

        int gain(int p, int who, int c) {
            World then = hour(who, c);
            int pail = then.row.get(p).pails - row.get(p).pails;
            return pail * row.get(p).value - then.row.get(p).threw;
        }

        int gain(int p) {
            return gain(p, -1, 0);
        }

        int gains() {
            int all = 0;
            for (int p = 0; p < row.size(); p++) {
                all += gain(p);
            }
            return all;
        }

        int worth(int byLaw) {
            World then = law(byLaw).hour(-1, 0);
            int paid = 0;
            for (One one : then.row) {
                paid += one.threw > 0 ? one.threw : 0;
            }
            return (then.sum(5) - sum(5)) * 100 / (paid == 0 ? 1 : paid);
        }
    }

    static final String[] NAMES = {"person", "hoper", "wisher", "gentleman", "child", "patron"};
    private static final int[][] UP = {{0}, {1, 0}, {2, 0}, {3, 0}, {4, 1, 0}, {5, 3, 0}};

    World w = new World(0, 0, false, 0, 0, 0, List.of());
    private World kept = null;
    private String tape = "";
    private final long[][] sheets = new long[4][];
    private final int[] bits = new int[4];
    private final int[] found = new int[7];

    long find(int code) {
        found[-1000000001 - code]++;
        return code;
    }

    /** A call by its name, so that none of the code of the class stands here again. */
    long call(String name, long[] a) {
        long answer = answer(name, a);
        if (answer == REFUSED) {
            return find(refusal);
        }
        return answer;
    }

    private static final long REFUSED = Long.MIN_VALUE + 12345;
    private int refusal = 0;

    private long no(int code) {
        refusal = code;
        return REFUSED;
    }

    private boolean one(long p) {
        return p >= 0 && p < w.row.size();
    }

    private static boolean in(long v, long least, long most) {
        return least <= v && v <= most;
    }

    private long answer(String name, long[] a) {
        long p = a.length > 0 ? a[0] : 0;
        int i = (int) p;
        switch (name) {
            case "turn": case "as":
                if (!in(a[1], 0, 5)) {
                    return no(Due.BEYOND);
                }
                if (!one(p)) {
                    return no(Due.BEYOND);
                }
                break;
            case "of": case "set": case "move": case "leave": case "thrown": case "gain": case "on": case "gainIf":
            case "best": case "regret": case "stand": case "kind":
                if (!one(p)) {
                    return no(Due.BEYOND);
                }
                break;
            case "write": case "lays": case "book": case "read":
                if (!in(p, 0, 3)) {
                    return no(Due.BEYOND);
                }
                if (sheets[i] == null) {
                    return no(Due.MISSING);
                }
                break;
            default:
        }
        switch (name) {
            case "person": return person(i);
            case "of": return of(i, (int) a[1]);
            case "set": return set(i, (int) a[1], (int) a[2]);
            case "turn": return turned(i, (int) a[1]);
            case "as": return Arrays.stream(UP[w.row.get(i).kind]).anyMatch(k -> k == a[1]) ? w.row.get(i).value : no(Due.KIND);
            case "move": return moved(i, a[1]);
            case "leave": return left(i);
            case "coins": return coins(i);
            case "law": return law(i);
            case "diver": return diver(a[0] != 0, (int) a[1]);
            case "hours": return hours(i);
            case "now": return now(i);
            case "runs": return w.hours(1).ran;
            case "thrown": return w.hours(1).row.get(i).threw;
            case "gain": return w.gain(i);
            case "all": return w.gains();
            case "on": return on(i, (int) a[1]);
            case "empty": return empty();
            default: return answerMore(name, a, i);
        }
    }

    private long answerMore(String name, long[] a, int i) {
        switch (name) {
            case "gainIf": return !in(a[1], 0, 99) ? no(Due.BEYOND) : w.row.get(i).purse < a[1] ? no(Due.STATE) : w.gain(i, i, (int) a[1]);
            case "best": return best(i);
            case "sorry": return sorry();
            case "regret": return w.gain(i, i, best(i)) - w.gain(i);
            case "stand": return stand(i);
            case "kind": return kind(i);
            case "lie": return lie();
            case "word": return w.diver(true, 0).gains() - w.diver(false, 0).gains();
            case "fair": return fair();
            case "rests": return w.row.size() > 8 ? no(Due.SIZE) : restRows().size();
            case "rest": return w.row.size() > 8 ? no(Due.SIZE) : restRows().isEmpty() ? no(Due.NONE) : restRows().get(0);
            case "feed": return feed(i, (int) a[1]);
            case "wipe": return wipe();
            case "square": return square();
            case "sheet": return sheet(a);
            case "write": return write(i, a[1], a[2]);
            case "copy": return copy(a);
            case "lays": return lays(i);
            case "book": return book(i);
            case "read": return read(i, a[1]);
            case "image":
                kept = w;
                return 1;
            case "undo":
                w = kept == null ? w : kept;
                return kept == null ? no(Due.NONE) : w.row.size();
            case "tear":
                boolean was = kept != null;
                kept = null;
                return was ? 1 : 0;
            case "count": return count(i);
            case "status": return status(i);
            default: throw new IllegalArgumentException(name);
        }
    }

    private long person(int kind) {
        if (!in(kind, 0, 5)) {
            return no(Due.BEYOND);
        }
        if (w.row.size() == 10) {
            return no(Due.FULL);
        }
        w = w.joined(kind);
        return w.row.size() - 1;
    }

    private long of(int p, int what) {
        if (in(what, 0, 6)) {
            return w.row.get(p).get(what);
        }
        if (what == 7) {
            return w.thinks(p);
        }
        if (what == 8) {
            return Math.max(p + 1 - w.thinks(p), 0);
        }
        return what == 9 ? w.would(p) : no(Due.BEYOND);
    }

    private long set(int p, int what, int v) {
        if (!in(what, 1, 3) || !in(v, 0, what == 1 ? 999 : 99)) {
            return no(Due.BEYOND);
        }
        int was = w.row.get(p).get(what);
        w = w.at(p, w.row.get(p).with(what, v));
        return was;
    }

    private long turned(int p, int kind) {
        int was = w.row.get(p).kind;
        w = w.at(p, w.row.get(p).with(0, kind));
        return was;
    }

    private long moved(int from, long to) {
        if (!one(to)) {
            return no(Due.BEYOND);
        }
        w = w.moved(from, (int) to);
        return from > to ? from - to : to - from;
    }

    private long left(int p) {
        int pails = w.row.get(p).pails;
        w = w.without(p);
        return pails;
    }

    private long coins(int v) {
        int was = w.coins;
        if (!in(v, 0, 999)) {
            return no(Due.BEYOND);
        }
        w = w.coins(v);
        return was;
    }

    private long law(int v) {
        int was = w.law;
        if (!in(v, 0, 2)) {
            return no(Due.BEYOND);
        }
        w = w.law(v);
        return was;
    }

    private long diver(boolean speaks, int lie) {
        boolean was = w.speaks;
        if (!in(lie, -20, 20)) {
            return no(Due.BEYOND);
        }
        w = w.diver(speaks, lie);
        return was ? 1 : 0;
    }

    private long hours(int n) {
        if (!in(n, 1, 200)) {
            return no(Due.BEYOND);
        }
        if (w.hour + n > 9999) {
            return no(Due.STATE);
        }
        int had = w.sum(5);
        w = w.hours(n);
        return w.sum(5) - had;
    }

    private long now(int what) {
        if (!in(what, 0, 8)) {
            return no(Due.BEYOND);
        }
        return new int[] {w.hour, w.coins, w.law, w.speaks ? 1 : 0, w.lie, w.ran, w.sum(1), w.sum(5), w.sum(6)}[what];
    }

    private long on(int p, int n) {
        if (!in(n, 0, 200)) {
            return no(Due.BEYOND);
        }
        return w.hour + n > 9999 ? no(Due.STATE) : w.hours(n).row.get(p).pails;
    }

    private long empty() {
        if (w.hour > 9799) {
            return no(Due.STATE);
        }
        World then = w;
        for (int n = 0; n <= 200; n++) {
            if (then.sum(1) == 0) {
                return n;
            }
            then = then.hours(1);
        }
        return no(Due.NONE);
    }

    /** Of the answers that give most, the least. */
    private static int least(Map<Integer, Integer> gainBy) {
        int best = Integer.MIN_VALUE;
        for (int v : gainBy.values()) {
            best = Math.max(best, v);
        }
        for (Map.Entry<Integer, Integer> e : gainBy.entrySet()) {
            if (e.getValue() == best) {
                return e.getKey();
            }
        }
        throw new IllegalStateException();
    }

    private int best(int p) {
        Map<Integer, Integer> by = new TreeMap<>();
        for (int c = 0; c <= 20 && c <= w.row.get(p).purse; c++) {
            by.put(c, w.gain(p, p, c));
        }
        return least(by);
    }

    private long sorry() {
        long set = 0;
        for (int p = 0; p < w.row.size(); p++) {
            boolean sorry = false;
            for (int c = 0; c <= 20 && c <= w.row.get(p).purse; c++) {
                sorry |= w.gain(p, p, c) > w.gain(p);
            }
            set += sorry ? 1L << p : 0;
        }
        return set;
    }

    private long stand(int p) {
        Map<Integer, Integer> by = new TreeMap<>();
        for (int to = 0; to < w.row.size(); to++) {
            by.put(to, w.moved(p, to).gain(to));
        }
        return least(by);
    }

    private long kind(int p) {
        Map<Integer, Integer> by = new TreeMap<>();
        for (int k = 0; k < 6; k++) {
            by.put(k, w.at(p, w.row.get(p).with(0, k)).gain(p));
        }
        return least(by);
    }

    private long lie() {
        Map<Integer, Integer> by = new TreeMap<>();
        for (int l = -20; l <= 20; l++) {
            by.put(l, w.diver(true, l).gains());
        }
        return least(by);
    }

    private long fair() {
        Map<Integer, Integer> by = new TreeMap<>();
        for (int l = 0; l <= 2; l++) {
            by.put(l, w.worth(l));
        }
        return least(by);
    }

    private int gainOfRow(int row, int p) {
        int run = w.coins;
        for (int q = 0; q < w.row.size(); q++) {
            run += row >> q & 1;
        }
        return (p < run ? w.row.get(p).value : 0) - (row >> p & 1);
    }

    private List<Integer> restRows() {
        List<Integer> rows = new ArrayList<>();
        for (int row = 0; row < 1 << w.row.size(); row++) {
            boolean good = true;
            for (int p = 0; p < w.row.size(); p++) {
                int other = row ^ 1 << p;
                boolean canThis = w.row.get(p).purse >= (row >> p & 1);
                boolean canOther = w.row.get(p).purse >= (other >> p & 1);
                good &= canThis && !(canOther && gainOfRow(other, p) > gainOfRow(row, p));
            }
            if (good) {
                rows.add(row);
            }
        }
        return rows;
    }

    private long feed(int bytes, int n) {
        if (!in(n, 1, 4)) {
            return no(Due.BEYOND);
        }
        if (tape.length() + n > 120) {
            return no(Due.FULL);
        }
        String add = "";
        for (int i = 0; i < n; i++) {
            add = (char) (bytes >>> 8 * i & 255) + add;
        }
        tape += add;
        return tape.length();
    }

    private long wipe() {
        int had = tape.length();
        tape = "";
        return had;
    }

    private long square() {
        Reading r = new Reading(tape, w);
        tape = "";
        int items = r.text();
        if (r.fault >= 0) {
            return -1 - r.fault;
        }
        w = r.w;
        return items;
    }

    /** Reads a list of tokens; the first that can't stand is the fault. */
    private static final class Reading {
        final List<String> tokens = new ArrayList<>();
        final List<Integer> places = new ArrayList<>();
        int at = 0;
        int fault = -1;
        World w;

        Reading(String text, World from) {
            w = from;
            Matcher m = Pattern.compile("[a-z]+|[0-9]+|[^ ]", Pattern.DOTALL).matcher(text);
            while (m.find()) {
                tokens.add(m.group());
                places.add(m.start());
            }
            tokens.add("");
            places.add(text.length());
        }

        int text() {
            int items = 0;
            do {
                item();
                items++;
            } while (fault < 0 && accept(";"));
            if (fault < 0 && !tokens.get(at).isEmpty()) {
                fail();
            }
            return items;
        }

        boolean accept(String token) {
            if (fault < 0 && tokens.get(at).equals(token)) {
                at++;
                return true;
            }
            return false;
        }

        void fail() {
            if (fault < 0) {
                fault = places.get(at);
            }
        }

        int number(int most, int not) {
            String t = tokens.get(at);
            if (fault >= 0 || !t.matches("[0-9]+") || new java.math.BigInteger(t).compareTo(java.math.BigInteger.valueOf(most)) > 0) {
                fail();
                return 0;
            }
            int v = Integer.parseInt(t);
            if (v == not) {
                fail();
                return 0;
            }
            at++;
            return v;
        }

        void item() {
            int kind = Arrays.asList(NAMES).indexOf(tokens.get(at));
            if (kind >= 0) {
                someone(kind);
            } else if (accept("coins")) {
                w = w.coins(number(999, -1));
            } else if (accept("law")) {
                w = w.law(number(2, -1));
            } else if (accept("silent")) {
                w = w.diver(false, 0);
            } else if (accept("diver")) {
                int lie = 0;
                if (accept("lie")) {
                    lie = accept("-") ? -number(20, -1) : number(20, -1);
                }
                w = w.diver(true, lie);
            } else if (accept("swap")) {
                int a = number(w.row.size() - 1, -1);
                int b = number(w.row.size() - 1, a);
                w = fault < 0 ? w.swapped(a, b) : w;
            } else {
                fail();
            }
        }

        void someone(int kind) {
            if (w.row.size() == 10) {
                fail();
                return;
            }
            at++;
            w = w.joined(kind);
            String[] words = {"", "purse", "value", "guess"};
            for (int what = 1; what <= 3; what++) {
                if (accept(words[what])) {
                    int v = number(what == 1 ? 999 : 99, -1);
                    int last = w.row.size() - 1;
                    w = w.at(last, w.row.get(last).with(what, v));
                }
            }
        }
    }

    private long sheet(long[] a) {
        if (!in(a[0], 0, 3) || !List.of(0L, 8L, 16L, 64L).contains(a[1])) {
            return no(Due.BEYOND);
        }
        if (!in(a[2], 0, 40)) {
            return no(a[2] < 0 ? Due.SIZE : Due.BEYOND);
        }
        sheets[(int) a[0]] = a[1] == 0 ? null : new long[(int) a[2]];
        bits[(int) a[0]] = (int) a[1];
        return a[1] == 0 ? 0 : a[2];
    }

    private void put(int s, int i, long v) {
        sheets[s][i] = v << 64 - bits[s] >> 64 - bits[s];
    }

    private long write(int s, long i, long v) {
        if (!in(i, 0, sheets[s].length - 1)) {
            return no(Due.BEYOND);
        }
        long was = sheets[s][(int) i];
        put(s, (int) i, v);
        return was;
    }

    private long copy(long[] a) {
        if (!in(a[0], 0, 3) || !in(a[2], 0, 3)) {
            return no(Due.BEYOND);
        }
        long[] s = sheets[(int) a[0]];
        long[] t = sheets[(int) a[2]];
        if (s == null || t == null) {
            return no(Due.MISSING);
        }
        if (bits[(int) a[0]] != bits[(int) a[2]]) {
            return no(Due.KIND);
        }
        if (a[1] < 0 || a[3] < 0 || a[4] < 0 || a[1] + a[4] > s.length || a[3] + a[4] > t.length) {
            return no(Due.BEYOND);
        }
        long[] part = Arrays.copyOfRange(s, (int) a[1], (int) (a[1] + a[4]));
        for (int i = 0; i < part.length; i++) {
            t[(int) a[3] + i] = part[i];
        }
        return a[4];
    }

    private long lays(int s) {
        int came = 0;
        for (int i = 0; i < sheets[s].length; i++) {
            if (one(i) && in(sheets[s][i], 0, 999)) {
                w = w.at(i, w.row.get(i).with(1, (int) sheets[s][i]));
                came++;
            }
        }
        return came;
    }

    private long book(int s) {
        if (w.hour > 9959) {
            return no(Due.STATE);
        }
        for (int i = 0; i < sheets[s].length; i++) {
            put(s, i, w.hours(i + 1).ran);
        }
        return sheets[s].length;
    }

    private long read(int s, long n) {
        return in(n, 0, 99) ? ways(s, 0, n - w.coins) : no(Due.BEYOND);
    }

    private long ways(int s, int p, long left) {
        if (p == w.row.size()) {
            return left == 0 ? 1 : 0;
        }
        long told = p < sheets[s].length ? sheets[s][p] : -1;
        return (told == 1 ? 0 : ways(s, p + 1, left)) + (told == 0 ? 0 : ways(s, p + 1, left - 1));
    }

    private long count(int what) {
        return in(what, 0, 3) ? new int[] {w.row.size(), tape.length(), w.sum(2), w.sum(4)}[what] : no(Due.BEYOND);
    }

    private long status(int which) {
        if (which == -1) {
            return Arrays.stream(found).sum();
        }
        return in(which, 0, 6) ? found[which] : no(Due.BEYOND);
    }
}
