import java.util.ArrayList;
import java.util.List;

/** Counts answers that are not as due, and helps tests to feed texts and to see all of a fountain. */
final class Due {
    static final int BEYOND = -1000000001;
    static final int FULL = -1000000002;
    static final int KIND = -1000000003;
    static final int NONE = -1000000004;
    static final int STATE = -1000000005;
    static final int MISSING = -1000000006;
    static final int SIZE = -1000000007;

    /** Numbers far from all that may be, some of which wrap around if one is added or they are doubled. */
    private static final int[] FAR = {Integer.MIN_VALUE, Integer.MIN_VALUE + 1, -65536, -256, -2, 256, 65536, 1 << 30, Integer.MAX_VALUE};

    private static int wrong = 0;
    private static int asked = 0;
    private static String sentence = "";

    private Due() {
    }

    /** The sentence of the document that the tests behind it look at. */
    static void says(String words) {
        sentence = "[" + words + "] ";
    }

    static void is(String call, long got, long want) {
        asked++;
        if (got != want) {
            wrong++;
            System.out.println(sentence + call + " answered " + got + ", due is " + want);
        }
    }

    static void holds(String what, boolean so) {
        is(what, so ? 1 : 0, 1);
    }

    /** An act must answer a finding, which is counted once, and change nothing else. */
    static void finds(String call, CoinFountain x, long finding, Act act) {
        String before = all(x);
        int countedAll = x.status(-1);
        int counted = x.status((int) (BEYOND - finding));
        is(call, act.answer(), finding);
        is("status(-1) behind " + call, x.status(-1), countedAll + 1);
        is("status of it behind " + call, x.status((int) (BEYOND - finding)), counted + 1);
        String after = all(x);
        holds(call + " changes nothing: " + before + " but " + after, before.equals(after));
    }

    interface Act {
        long answer();
    }

    /** An act that may be asked of any number. */
    interface ActOn {
        long answer(int v);
    }

    /** All numbers below the least and above the most must be answered by a finding, those at the edge and those far away. */
    static void findsOutside(String call, CoinFountain x, int least, int most, long finding, ActOn act) {
        finds(call + " of " + (least - 1), x, finding, () -> act.answer(least - 1));
        finds(call + " of " + (most + 1), x, finding, () -> act.answer(most + 1));
        for (int v : FAR) {
            if (v < least || v > most) {
                finds(call + " of " + v, x, finding, () -> act.answer(v));
            }
        }
    }

    /** Only those below the least. */
    static void findsBelow(String call, CoinFountain x, int least, long finding, ActOn act) {
        finds(call + " of " + (least - 1), x, finding, () -> act.answer(least - 1));
        for (int v : FAR) {
            if (v < least) {
                finds(call + " of " + v, x, finding, () -> act.answer(v));
            }
        }
    }

    /** Only those above the most. */
    static void findsAbove(String call, CoinFountain x, int most, long finding, ActOn act) {
        finds(call + " of " + (most + 1), x, finding, () -> act.answer(most + 1));
        for (int v : FAR) {
            if (v > most) {
                finds(call + " of " + v, x, finding, () -> act.answer(v));
            }
        }
    }

    /** Hours go until it is that HOUR. */
    static void late(CoinFountain x, int hour) {
        while (x.now(0) < hour) {
            x.hours(Math.min(200, hour - x.now(0)));
        }
        is("HOUR", x.now(0), hour);
    }

    /** People of one KIND. */
    static CoinFountain crowd(int kind, int n) {
        CoinFountain x = new CoinFountain();
        for (int i = 0; i < n; i++) {
            x.person(kind);
        }
        return x;
    }

    static int feed(CoinFountain x, String text) {
        int has = x.count(1);
        for (int i = 0; i < text.length(); i++) {
            has = x.feed(text.charAt(i), 1);
        }
        return has;
    }

    static int square(CoinFountain x, String text) {
        feed(x, text);
        return x.square();
    }

    /** A square told in one text or several, as one has at most 120 bytes. */
    static CoinFountain told(String... texts) {
        CoinFountain x = new CoinFountain();
        for (String text : texts) {
            int items = square(x, text);
            holds("square of " + text, items > 0);
        }
        return x;
    }

    /** What can be seen of it without a finding. */
    static String all(CoinFountain x) {
        List<Long> seen = new ArrayList<>();
        for (int what = 0; what <= 3; what++) {
            seen.add((long) x.count(what));
        }
        for (int what = 0; what <= 8; what++) {
            seen.add((long) x.now(what));
        }
        for (int place = 0; place < x.count(0); place++) {
            for (int what = 0; what <= 9; what++) {
                seen.add((long) x.of(place, what));
            }
        }
        return seen.toString();
    }

    static String sheet(CoinFountain x, int s, int n) {
        List<Long> seen = new ArrayList<>();
        for (int i = 0; i < n; i++) {
            long v = x.write(s, i, 0);
            x.write(s, i, v);
            seen.add(v);
        }
        return seen.toString();
    }

    static void same(String what, String got, String want) {
        holds(what + " is " + got + ", due is " + want, got.equals(want));
    }

    static void end() {
        System.out.println(wrong == 0 ? asked + " answers are as due" : wrong + " of " + asked + " answers are not as due");
        if (wrong != 0) {
            System.exit(1);
        }
    }
}
