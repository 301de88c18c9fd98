/** A fountain that runs a minute for each coin thrown in, and the row of people with pails before it. */
public final class CoinFountain {
    private static final int BEYOND = -1000000001;
    private static final int FULL = -1000000002;
    private static final int KIND = -1000000003;
    private static final int NONE = -1000000004;
    private static final int STATE = -1000000005;
    private static final int MISSING = -1000000006;
    private static final int SIZE = -1000000007;
    private static final int FINDINGS = 7;

    private static final int MOST_PEOPLE = 10;
    private static final int MOST_COINS = 999;
    private static final int MOST_PURSE = 999;
    private static final int MOST_VALUE = 99;
    private static final int MOST_GUESS = 99;
    private static final int MOST_TALLY = 999999;
    private static final int MOST_LAW = 2;
    private static final int MOST_LIE = 20;
    private static final int MOST_HOUR = 9999;
    private static final int MOST_AHEAD = 200;
    private static final int MOST_IF = 99;
    private static final int MOST_BEST = 20;
    private static final int MOST_AT_REST = 8;
    private static final int MOST_BYTES = 120;
    private static final int MOST_NUMBERS = 40;
    private static final int SHEETS = 4;
    private static final int MOST_RUN_READ = 99;
    private static final int NOBODY = -1;

    private static final int PERSON = 0;
    private static final int HOPER = 1;
    private static final int WISHER = 2;
    private static final int GENTLEMAN = 3;
    private static final int CHILD = 4;
    private static final int PATRON = 5;
    private static final int KINDS = 6;
    private static final int NO_KIND = -1;
    /** For each KIND the one it stands under. */
    private static final int[] ABOVE = {NO_KIND, PERSON, PERSON, PERSON, HOPER, GENTLEMAN};

    private final int[] found = new int[FINDINGS];
    private final Square here = new Square();
    /** Where hours are tried, so that what is here stays as it is. */
    private final Square trial = new Square();
    private final Square kept = new Square();
    private boolean isKept = false;
    private final Text text = new Text();
    private final Sheet[] sheets = new Sheet[SHEETS];

    public CoinFountain() {
        for (int s = 0; s < SHEETS; s++) {
            sheets[s] = new Sheet();
        }
    }

    // ---- the row

    public int person(int kind) {
        if (!isKind(kind)) {
            return finding(BEYOND);
        }
        if (here.people >= MOST_PEOPLE) {
            return finding(FULL);
        }
        return here.join(kind);
    }

    public int of(int place, int what) {
        if (!here.stands(place)) {
            return finding(BEYOND);
        }
        Person one = here.row[place];
        switch (what) {
            case 0: return one.kind;
            case 1: return one.purse;
            case 2: return one.value;
            case 3: return one.guess;
            case 4: return one.threw;
            case 5: return one.pails;
            case 6: return one.dry;
            case 7: return here.thinks(place);
            case 8: return here.shortAt(place, place);
            case 9: return here.wouldThrow(place);
            default: return finding(BEYOND);
        }
    }

    public int set(int place, int what, int v) {
        if (!here.stands(place) || !isSettable(what, v)) {
            return finding(BEYOND);
        }
        Person one = here.row[place];
        int was;
        switch (what) {
            case 1:
                was = one.purse;
                one.purse = v;
                return was;
            case 2:
                was = one.value;
                one.value = v;
                return was;
            default:
                was = one.guess;
                one.guess = v;
                return was;
        }
    }

    public int turn(int place, int kind) {
        if (!here.stands(place) || !isKind(kind)) {
            return finding(BEYOND);
        }
        int was = here.row[place].kind;
        here.row[place].kind = kind;
        return was;
    }

    public int as(int place, int kind) {
        if (!here.stands(place) || !isKind(kind)) {
            return finding(BEYOND);
        }
        if (!isOf(here.row[place].kind, kind)) {
            return finding(KIND);
        }
        return here.row[place].value;
    }

    public int move(int from, int to) {
        if (!here.stands(from) || !here.stands(to)) {
            return finding(BEYOND);
        }
        here.walk(from, to);
        return Math.abs(from - to);
    }

    public int leave(int place) {
        if (!here.stands(place)) {
            return finding(BEYOND);
        }
        int pails = here.row[place].pails;
        here.goAway(place);
        return pails;
    }

    public int coins(int v) {
        if (!isWithin(v, 0, MOST_COINS)) {
            return finding(BEYOND);
        }
        int was = here.coins;
        here.coins = v;
        return was;
    }

    public int law(int v) {
        if (!isWithin(v, 0, MOST_LAW)) {
            return finding(BEYOND);
        }
        int was = here.law;
        here.law = v;
        return was;
    }

    public int diver(boolean speaks, int lie) {
        if (!isWithin(lie, -MOST_LIE, MOST_LIE)) {
            return finding(BEYOND);
        }
        int was = oneIf(here.speaks);
        here.hear(speaks, lie);
        return was;
    }

    // ---- hours

    public int hours(int n) {
        if (!isWithin(n, 1, MOST_AHEAD)) {
            return finding(BEYOND);
        }
        if (here.hour + n > MOST_HOUR) {
            return finding(STATE);
        }
        int filled = 0;
        for (int i = 0; i < n; i++) {
            filled += here.passHour(NOBODY, 0);
        }
        return filled;
    }

    public int now(int what) {
        switch (what) {
            case 0: return here.hour;
            case 1: return here.coins;
            case 2: return here.law;
            case 3: return oneIf(here.speaks);
            case 4: return here.lie;
            case 5: return here.ran;
            case 6: return here.allPurses();
            case 7: return here.allPails();
            case 8: return here.allDry();
            default: return finding(BEYOND);
        }
    }

    // ---- the next hour, on

    public int runs() {
        tryNextHour();
        return trial.ran;
    }

    public int thrown(int place) {
        if (!here.stands(place)) {
            return finding(BEYOND);
        }
        tryNextHour();
        return trial.row[place].threw;
    }

    public int gain(int place) {
        if (!here.stands(place)) {
            return finding(BEYOND);
        }
        return gainAsIs(place);
    }

    public int all() {
        tryNextHour();
        return trial.allGains();
    }

    public int on(int place, int n) {
        if (!here.stands(place) || !isWithin(n, 0, MOST_AHEAD)) {
            return finding(BEYOND);
        }
        if (here.hour + n > MOST_HOUR) {
            return finding(STATE);
        }
        trial.become(here);
        for (int i = 0; i < n; i++) {
            trial.passHour(NOBODY, 0);
        }
        return trial.row[place].pails;
    }

    public int empty() {
        if (here.hour > MOST_HOUR - MOST_AHEAD) {
            return finding(STATE);
        }
        trial.become(here);
        for (int n = 0; n <= MOST_AHEAD; n++) {
            if (trial.allPurses() == 0) {
                return n;
            }
            trial.passHour(NOBODY, 0);
        }
        return finding(NONE);
    }

    // ---- what to throw

    public int gainIf(int place, int c) {
        if (!here.stands(place) || !isWithin(c, 0, MOST_IF)) {
            return finding(BEYOND);
        }
        if (here.row[place].purse < c) {
            return finding(STATE);
        }
        return gainThrowing(place, c);
    }

    public int best(int place) {
        if (!here.stands(place)) {
            return finding(BEYOND);
        }
        return bestThrow(place);
    }

    public int sorry() {
        int set = 0;
        for (int place = 0; place < here.people; place++) {
            if (gainThrowing(place, bestThrow(place)) > gainAsIs(place)) {
                set |= 1 << place;
            }
        }
        return set;
    }

    public int regret(int place) {
        if (!here.stands(place)) {
            return finding(BEYOND);
        }
        // Below 0 for a CHILD whose fishing is better than all that it could throw.
        return gainThrowing(place, bestThrow(place)) - gainAsIs(place);
    }

    public int stand(int place) {
        if (!here.stands(place)) {
            return finding(BEYOND);
        }
        int bestPlace = 0;
        int most = gainStanding(place, 0);
        for (int to = 1; to < here.people; to++) {
            int gained = gainStanding(place, to);
            if (gained > most) {
                most = gained;
                bestPlace = to;
            }
        }
        return bestPlace;
    }

    public int kind(int place) {
        if (!here.stands(place)) {
            return finding(BEYOND);
        }
        int bestKind = 0;
        int most = gainBeing(place, 0);
        for (int k = 1; k < KINDS; k++) {
            int gained = gainBeing(place, k);
            if (gained > most) {
                most = gained;
                bestKind = k;
            }
        }
        return bestKind;
    }

    public int lie() {
        int bestLie = -MOST_LIE;
        int most = gainsHearing(true, bestLie);
        for (int l = -MOST_LIE + 1; l <= MOST_LIE; l++) {
            int gained = gainsHearing(true, l);
            if (gained > most) {
                most = gained;
                bestLie = l;
            }
        }
        return bestLie;
    }

    public int word() {
        return gainsHearing(true, 0) - gainsHearing(false, 0);
    }

    public int fair() {
        int bestLaw = 0;
        int most = pailsForCoins(0);
        for (int l = 1; l <= MOST_LAW; l++) {
            int worth = pailsForCoins(l);
            if (worth > most) {
                most = worth;
                bestLaw = l;
            }
        }
        return bestLaw;
    }

    public int rests() {
        if (here.people > MOST_AT_REST) {
            return finding(SIZE);
        }
        int many = 0;
        int rows = 1 << here.people;
        for (int bits = 0; bits < rows; bits++) {
            if (isAtRest(bits)) {
                many++;
            }
        }
        return many;
    }

    public int rest() {
        if (here.people > MOST_AT_REST) {
            return finding(SIZE);
        }
        int rows = 1 << here.people;
        for (int bits = 0; bits < rows; bits++) {
            if (isAtRest(bits)) {
                return bits;
            }
        }
        return finding(NONE);
    }

    // ---- the text

    public int feed(int bytes, int n) {
        if (!isWithin(n, 1, 4)) {
            return finding(BEYOND);
        }
        if (text.size + n > MOST_BYTES) {
            return finding(FULL);
        }
        for (int i = n - 1; i >= 0; i--) {
            text.append((byte) (bytes >> (8 * i)));
        }
        return text.size;
    }

    public int wipe() {
        int had = text.size;
        text.size = 0;
        return had;
    }

    public int square() {
        // A FAULT may come behind good ITEMS: they must not have come to what is here by then.
        trial.become(here);
        int told = text.tell(trial);
        text.size = 0;
        if (told >= 0) {
            here.become(trial);
        }
        return told;
    }

    // ---- sheets

    public int sheet(int s, int bits, int n) {
        if (!isSheet(s) || !isWidth(bits)) {
            return finding(BEYOND);
        }
        if (n < 0) {
            return finding(SIZE);
        }
        if (n > MOST_NUMBERS) {
            return finding(BEYOND);
        }
        sheets[s].begin(bits, bits == 0 ? 0 : n);
        return sheets[s].size;
    }

    public long write(int s, int i, long v) {
        if (!isSheet(s)) {
            return finding(BEYOND);
        }
        if (sheets[s].isMissing()) {
            return finding(MISSING);
        }
        if (i < 0 || i >= sheets[s].size) {
            return finding(BEYOND);
        }
        long was = sheets[s].numbers[i];
        sheets[s].put(i, v);
        return was;
    }

    public int copy(int s, int from, int t, int to, int n) {
        if (!isSheet(s) || !isSheet(t)) {
            return finding(BEYOND);
        }
        if (sheets[s].isMissing() || sheets[t].isMissing()) {
            return finding(MISSING);
        }
        if (sheets[s].bits != sheets[t].bits) {
            return finding(KIND);
        }
        if (!sheets[s].hasPart(from, n) || !sheets[t].hasPart(to, n)) {
            return finding(BEYOND);
        }
        System.arraycopy(sheets[s].numbers, from, sheets[t].numbers, to, n);
        return n;
    }

    public int lays(int s) {
        if (!isSheet(s)) {
            return finding(BEYOND);
        }
        if (sheets[s].isMissing()) {
            return finding(MISSING);
        }
        int came = 0;
        int most = Math.min(sheets[s].size, here.people);
        for (int i = 0; i < most; i++) {
            long v = sheets[s].numbers[i];
            if (v >= 0 && v <= MOST_PURSE) {
                here.row[i].purse = (int) v;
                came++;
            }
        }
        return came;
    }

    public int book(int s) {
        if (!isSheet(s)) {
            return finding(BEYOND);
        }
        if (sheets[s].isMissing()) {
            return finding(MISSING);
        }
        if (here.hour > MOST_HOUR - MOST_NUMBERS) {
            return finding(STATE);
        }
        trial.become(here);
        for (int i = 0; i < sheets[s].size; i++) {
            trial.passHour(NOBODY, 0);
            sheets[s].put(i, trial.ran);
        }
        return sheets[s].size;
    }

    public int read(int s, int n) {
        if (!isSheet(s)) {
            return finding(BEYOND);
        }
        if (sheets[s].isMissing()) {
            return finding(MISSING);
        }
        if (!isWithin(n, 0, MOST_RUN_READ)) {
            return finding(BEYOND);
        }
        int ways = 0;
        int rows = 1 << here.people;
        for (int bits = 0; bits < rows; bits++) {
            if (here.coins + Integer.bitCount(bits) == n && agrees(sheets[s], bits)) {
                ways++;
            }
        }
        return ways;
    }

    // ---- images

    public int image() {
        kept.become(here);
        isKept = true;
        return 1;
    }

    public int undo() {
        if (!isKept) {
            return finding(NONE);
        }
        here.become(kept);
        return here.people;
    }

    public int tear() {
        int was = oneIf(isKept);
        isKept = false;
        return was;
    }

    public int count(int what) {
        switch (what) {
            case 0: return here.people;
            case 1: return text.size;
            case 2: return here.allValues();
            case 3: return here.allThrew();
            default: return finding(BEYOND);
        }
    }

    public int status(int which) {
        if (which == -1) {
            int sum = 0;
            for (int i = 0; i < FINDINGS; i++) {
                sum += found[i];
            }
            return sum;
        }
        if (which < 0 || which >= FINDINGS) {
            return finding(BEYOND);
        }
        return found[which];
    }

    // ---- behind the face

    private int finding(int code) {
        int which = BEYOND - code;
        if (which >= 0 && which < FINDINGS) {
            found[which]++;
        }
        return code;
    }

    private static boolean isWithin(int v, int least, int most) {
        return v >= least && v <= most;
    }

    private static int oneIf(boolean yes) {
        return yes ? 1 : 0;
    }

    private static boolean isKind(int kind) {
        return kind >= 0 && kind < KINDS;
    }

    private static boolean isOf(int kind, int wanted) {
        int k = kind;
        for (int step = 0; step < KINDS && isKind(k); step++) {
            if (k == wanted) {
                return true;
            }
            k = ABOVE[k];
        }
        return false;
    }

    private static boolean isSettable(int what, int v) {
        switch (what) {
            case 1: return isWithin(v, 0, MOST_PURSE);
            case 2: return isWithin(v, 0, MOST_VALUE);
            case 3: return isWithin(v, 0, MOST_GUESS);
            default: return false;
        }
    }

    private static boolean isSheet(int s) {
        return s >= 0 && s < SHEETS;
    }

    private static boolean isWidth(int bits) {
        return bits == 0 || bits == 8 || bits == 16 || bits == 64;
    }

    private void tryNextHour() {
        trial.become(here);
        trial.passHour(NOBODY, 0);
    }

    private int gainAsIs(int place) {
        tryNextHour();
        return trial.gainAt(place);
    }

    private int gainThrowing(int place, int c) {
        trial.become(here);
        trial.passHour(place, c);
        return trial.gainAt(place);
    }

    private int gainStanding(int place, int to) {
        trial.become(here);
        trial.walk(place, to);
        trial.passHour(NOBODY, 0);
        return trial.gainAt(to);
    }

    private int gainBeing(int place, int kind) {
        trial.become(here);
        trial.row[place].kind = kind;
        trial.passHour(NOBODY, 0);
        return trial.gainAt(place);
    }

    private int gainsHearing(boolean speaks, int lie) {
        trial.become(here);
        trial.hear(speaks, lie);
        trial.passHour(NOBODY, 0);
        return trial.allGains();
    }

    private int pailsForCoins(int law) {
        trial.become(here);
        trial.law = law;
        int filled = trial.passHour(NOBODY, 0);
        int paid = trial.allPaid();
        return paid > 0 ? filled * 100 / paid : filled * 100;
    }

    private int bestThrow(int place) {
        int bestC = 0;
        int most = gainThrowing(place, 0);
        int last = Math.min(MOST_BEST, here.row[place].purse);
        for (int c = 1; c <= last; c++) {
            int gained = gainThrowing(place, c);
            if (gained > most) {
                most = gained;
                bestC = c;
            }
        }
        return bestC;
    }

    private boolean isAtRest(int bits) {
        int minutes = here.coins + Integer.bitCount(bits);
        for (int place = 0; place < here.people; place++) {
            Person one = here.row[place];
            int own = (bits >> place) & 1;
            int other = 1 - own;
            if (one.purse < own) {
                return false;
            }
            int gained = one.gainBy(place < minutes, own);
            int otherwise = one.gainBy(place < minutes - own + other, other);
            if (one.purse >= other && otherwise > gained) {
                return false;
            }
        }
        return true;
    }

    private boolean agrees(Sheet known, int bits) {
        int most = Math.min(known.size, here.people);
        for (int place = 0; place < most; place++) {
            long told = known.numbers[place];
            if ((told == 0 || told == 1) && told != ((bits >> place) & 1)) {
                return false;
            }
        }
        return true;
    }

    /** One in the row. */
    private static final class Person {
        int kind;
        int purse;
        int value;
        int guess;
        int threw;
        int pails;
        int dry;

        void arrive(int newKind) {
            kind = newKind;
            purse = 5;
            value = 3;
            guess = 0;
            threw = 0;
            pails = 0;
            dry = 0;
        }

        void resemble(Person other) {
            kind = other.kind;
            purse = other.purse;
            value = other.value;
            guess = other.guess;
            threw = other.threw;
            pails = other.pails;
            dry = other.dry;
        }

        int gainBy(boolean pail, int amount) {
            return (pail ? value : 0) - amount;
        }
    }

    /** All that section 1 of the document tells, but THE TAPE. */
    private static final class Square {
        int coins = 0;
        int law = 0;
        boolean speaks = false;
        int lie = 0;
        int hour = 0;
        int ran = 0;
        int people = 0;
        /** Never null: those behind the last of the people wait to be used again. */
        final Person[] row = new Person[MOST_PEOPLE];

        Square() {
            for (int i = 0; i < MOST_PEOPLE; i++) {
                row[i] = new Person();
            }
        }

        void become(Square other) {
            coins = other.coins;
            law = other.law;
            speaks = other.speaks;
            lie = other.lie;
            hour = other.hour;
            ran = other.ran;
            people = other.people;
            for (int i = 0; i < people; i++) {
                row[i].resemble(other.row[i]);
            }
        }

        boolean stands(int place) {
            return place >= 0 && place < people;
        }

        /** Only where there is room for one more. */
        int join(int kind) {
            int place = people;
            row[place].arrive(kind);
            people++;
            return place;
        }

        void walk(int from, int to) {
            Person one = row[from];
            for (int i = from; i < to; i++) {
                row[i] = row[i + 1];
            }
            for (int i = from; i > to; i--) {
                row[i] = row[i - 1];
            }
            row[to] = one;
        }

        void goAway(int place) {
            walk(place, people - 1);
            people--;
        }

        void swapPlaces(int a, int b) {
            Person one = row[a];
            row[a] = row[b];
            row[b] = one;
        }

        void hear(boolean someone, int newLie) {
            speaks = someone;
            lie = someone ? newLie : 0;
        }

        int thinks(int place) {
            if (!speaks) {
                return row[place].guess;
            }
            int told = coins + lie;
            return told > 0 ? told : 0;
        }

        /** What would be SHORT at a PLACE by what the one who stands at another THINKS. */
        int shortAt(int place, int thinker) {
            return Math.max(0, place + 1 - thinks(thinker));
        }

        int wouldThrow(int place) {
            Person one = row[place];
            int lacks = shortAt(place, place);
            int amount = 0;
            switch (one.kind) {
                case PERSON:
                    amount = lacks == 1 && one.value >= 1 ? 1 : 0;
                    break;
                case WISHER:
                    amount = 1;
                    break;
                case GENTLEMAN:
                    amount = lacks <= one.value ? lacks : 0;
                    break;
                case CHILD:
                    amount = coins > 0 ? -1 : 0;
                    break;
                case PATRON:
                    amount = shortAt(people - 1, place);
                    break;
                default:
                    // A HOPER throws nothing.
                    break;
            }
            return Math.min(amount, one.purse);
        }

        /** An HOUR, in which one of them throws c instead of what that one WOULD: PAILS that are filled. */
        int passHour(int who, int c) {
            for (int i = 0; i < people; i++) {
                int place = throwerAt(i);
                throwIn(row[place], place == who ? c : wouldThrow(place));
            }
            ran = coins;
            coins = 0;
            hour++;
            return fillPails();
        }

        private int throwerAt(int i) {
            int odd = people / 2;
            switch (law) {
                case 1: return people - 1 - i;
                case 2: return i < odd ? 2 * i + 1 : 2 * (i - odd);
                default: return i;
            }
        }

        private void throwIn(Person one, int amount) {
            one.threw = amount;
            one.purse = Math.min(MOST_PURSE, one.purse - amount);
            coins = Math.min(MOST_COINS, coins + amount);
        }

        private int fillPails() {
            int filled = 0;
            for (int place = 0; place < people; place++) {
                Person one = row[place];
                if (place < ran) {
                    one.pails = Math.min(MOST_TALLY, one.pails + 1);
                    filled++;
                } else {
                    one.dry = Math.min(MOST_TALLY, one.dry + 1);
                }
            }
            return filled;
        }

        /** In the HOUR that went latest. */
        int gainAt(int place) {
            return row[place].gainBy(place < ran, row[place].threw);
        }

        int allGains() {
            int sum = 0;
            for (int i = 0; i < people; i++) {
                sum += gainAt(i);
            }
            return sum;
        }

        int allPurses() {
            int sum = 0;
            for (int i = 0; i < people; i++) {
                sum += row[i].purse;
            }
            return sum;
        }

        int allPails() {
            int sum = 0;
            for (int i = 0; i < people; i++) {
                sum += row[i].pails;
            }
            return sum;
        }

        int allDry() {
            int sum = 0;
            for (int i = 0; i < people; i++) {
                sum += row[i].dry;
            }
            return sum;
        }

        int allValues() {
            int sum = 0;
            for (int i = 0; i < people; i++) {
                sum += row[i].value;
            }
            return sum;
        }

        int allThrew() {
            int sum = 0;
            for (int i = 0; i < people; i++) {
                sum += row[i].threw;
            }
            return sum;
        }

        /** What was thrown above 0: a coin that a child fished out pays nothing back. */
        int allPaid() {
            int sum = 0;
            for (int i = 0; i < people; i++) {
                sum += Math.max(0, row[i].threw);
            }
            return sum;
        }
    }

    /** THE TAPE, and the reading of it as THE TEXT of a SQUARE, a TOKEN at a time. */
    private static final class Text {
        private static final int END = 0;
        private static final int WORD = 1;
        private static final int NUMBER = 2;
        private static final int SEMICOLON = 3;
        private static final int MINUS = 4;
        private static final int NO_TOKEN = 5;
        private static final int TOO_MUCH = 1000;

        final byte[] bytes = new byte[MOST_BYTES];
        int size = 0;

        /** The TOKEN looked at: what it is, its first byte, the byte behind it, its number. */
        private int token = END;
        private int first = 0;
        private int behind = 0;
        private int number = 0;

        /** Only where there is room for one more. */
        void append(byte b) {
            bytes[size] = b;
            size++;
        }

        /** The ITEMS come to a square: how many; or -1 less the place of the FAULT. */
        int tell(Square square) {
            behind = 0;
            look();
            for (int items = 1; items <= MOST_BYTES; items++) {
                if (!takeItem(square)) {
                    break;
                }
                if (token == END) {
                    return items;
                }
                if (token != SEMICOLON) {
                    break;
                }
                look();
            }
            return -1 - first;
        }

        private boolean takeItem(Square square) {
            if (token != WORD) {
                return false;
            }
            int kind = kindNamed();
            if (kind != NO_KIND) {
                return takePerson(square, kind);
            }
            if (isWord("coins")) {
                return takeCoins(square);
            }
            if (isWord("law")) {
                return takeLaw(square);
            }
            if (isWord("diver")) {
                return takeDiver(square);
            }
            if (isWord("silent")) {
                square.hear(false, 0);
                look();
                return true;
            }
            return isWord("swap") && takeSwap(square);
        }

        private boolean takePerson(Square square, int kind) {
            if (square.people >= MOST_PEOPLE) {
                return false;
            }
            Person one = square.row[square.join(kind)];
            look();
            if (isWord("purse")) {
                look();
                if (!isNumber(MOST_PURSE)) {
                    return false;
                }
                one.purse = takeNumber();
            }
            if (isWord("value")) {
                look();
                if (!isNumber(MOST_VALUE)) {
                    return false;
                }
                one.value = takeNumber();
            }
            if (isWord("guess")) {
                look();
                if (!isNumber(MOST_GUESS)) {
                    return false;
                }
                one.guess = takeNumber();
            }
            return true;
        }

        private boolean takeCoins(Square square) {
            look();
            if (!isNumber(MOST_COINS)) {
                return false;
            }
            square.coins = takeNumber();
            return true;
        }

        private boolean takeLaw(Square square) {
            look();
            if (!isNumber(MOST_LAW)) {
                return false;
            }
            square.law = takeNumber();
            return true;
        }

        private boolean takeDiver(Square square) {
            square.hear(true, 0);
            look();
            if (!isWord("lie")) {
                return true;
            }
            look();
            boolean below = token == MINUS;
            if (below) {
                look();
            }
            if (!isNumber(MOST_LIE)) {
                return false;
            }
            int lie = takeNumber();
            square.hear(true, below ? -lie : lie);
            return true;
        }

        private boolean takeSwap(Square square) {
            look();
            if (!isNumber(square.people - 1)) {
                return false;
            }
            int one = takeNumber();
            if (!isNumber(square.people - 1) || number == one) {
                return false;
            }
            square.swapPlaces(one, takeNumber());
            return true;
        }

        private boolean isNumber(int most) {
            return token == NUMBER && number <= most;
        }

        private int takeNumber() {
            int taken = number;
            look();
            return taken;
        }

        private int kindNamed() {
            for (int kind = 0; kind < KINDS; kind++) {
                if (isWord(nameOf(kind))) {
                    return kind;
                }
            }
            return NO_KIND;
        }

        private static String nameOf(int kind) {
            switch (kind) {
                case PERSON: return "person";
                case HOPER: return "hoper";
                case WISHER: return "wisher";
                case GENTLEMAN: return "gentleman";
                case CHILD: return "child";
                default: return "patron";
            }
        }

        private boolean isWord(String name) {
            if (token != WORD || behind - first != name.length()) {
                return false;
            }
            for (int i = 0; i < name.length(); i++) {
                if (bytes[first + i] != name.charAt(i)) {
                    return false;
                }
            }
            return true;
        }

        /** Looks at the next TOKEN. At the end it begins behind the last byte, where a FAULT is told then. */
        private void look() {
            first = behind;
            while (first < size && bytes[first] == ' ') {
                first++;
            }
            behind = first;
            if (first >= size) {
                token = END;
                return;
            }
            if (isLetter(bytes[first])) {
                token = WORD;
                while (behind < size && isLetter(bytes[behind])) {
                    behind++;
                }
                return;
            }
            if (isDigit(bytes[first])) {
                token = NUMBER;
                number = 0;
                while (behind < size && isDigit(bytes[behind])) {
                    number = Math.min(TOO_MUCH, 10 * number + bytes[behind] - '0');
                    behind++;
                }
                return;
            }
            token = signOf(bytes[first]);
            behind++;
        }

        private static int signOf(byte b) {
            switch (b) {
                case ';': return SEMICOLON;
                case '-': return MINUS;
                default: return NO_TOKEN;
            }
        }

        private static boolean isLetter(byte b) {
            return b >= 'a' && b <= 'z';
        }

        private static boolean isDigit(byte b) {
            return b >= '0' && b <= '9';
        }
    }

    /** A row of numbers of some bits, with their sign; of 0 bits: MISSING. */
    private static final class Sheet {
        int bits = 0;
        int size = 0;
        final long[] numbers = new long[MOST_NUMBERS];

        boolean isMissing() {
            return bits == 0;
        }

        void begin(int newBits, int newSize) {
            bits = newBits;
            size = newSize;
            for (int i = 0; i < MOST_NUMBERS; i++) {
                numbers[i] = 0L;
            }
        }

        void put(int i, long v) {
            numbers[i] = cut(v);
        }

        private long cut(long v) {
            switch (bits) {
                case 8: return (byte) v;
                case 16: return (short) v;
                default: return v;
            }
        }

        boolean hasPart(int from, int n) {
            return from >= 0 && n >= 0 && from <= size && n <= size - from;
        }
    }
}
