/**
 * Pairs of bellows that keep a last word, hearths side by side, warm days and cold ones.
 * Every refusal is an answer: no call throws, and none but the constructor makes an object.
 */
public final class BellowsWords {
    public static final int NONE = -1000000, BAD = -1000001, STATE = -1000002, FULL = -1000003;

    private static final int FINDINGS_FROM = -1000010, FAULTS_FROM = -1000100;
    private static final int NULL = 1, PLACE = 2, NOT_THAT_KIND = 3, SIZE = 4, STORE = 5;
    private static final int LANE_MOST = 2;
    private static final int FIRE_SET_MOST = 20, WARM_MOST = 15, DAY_MOST = 9999, DAYS_MOST = 24;
    private static final int FORETOLD_MOST = 60, PLAN_MOST = 30;
    private static final int WAIT_DAYS_LEAST = 5, WAIT_DAYS_MOST = 20;
    private static final int TOLD_MOST = 12, CHANCE_DAYS_MOST = 8, TENTHS = 10;
    private static final int SEED_MOST = 999999;
    private static final int KIND_MOST = 5;

    /** By KIND, the nearest KIND that it is, too; PAIR (0) is nothing else. */
    private static final int[] PARENT = {-1, 0, 1, 1, 0, 4};

    private final Rows rows;
    private final Tape tape;
    private final House now;
    private final Acts acts;
    private final House[] images;
    private final Foreteller foreteller;
    private final Asker asker;
    private int finding;

    public BellowsWords() {
        rows = new Rows();
        tape = new Tape();
        now = new House();
        acts = new Acts();
        images = new House[] {new House(), new House()};
        foreteller = new Foreteller();
        asker = new Asker();
        finding = 0;
    }

    // ---- rows.

    public int row(int row, int lane, int n) {
        if (!isRow(row) || !isWithin(lane, 0, LANE_MOST) || n > Rows.ITEMS_MOST) {
            return BAD;
        }
        if (n < 0) {
            return found(SIZE);
        }
        rows.make(row, lane, n);
        return unfound(n);
    }

    public int set(int row, int i, int v) {
        if (!isRow(row)) {
            return BAD;
        }
        if (rows.isMissing(row)) {
            return found(NULL);
        }
        if (!rows.hasPlaces(row, i, 1)) {
            return found(PLACE);
        }
        return unfound(rows.put(row, i, v));
    }

    public int copy(int a, int i, int b, int j, int n) {
        if (!isRow(a) || !isRow(b)) {
            return BAD;
        }
        if (rows.isMissing(a) || rows.isMissing(b)) {
            return found(NULL);
        }
        if (rows.lanes[a] != rows.lanes[b]) {
            return found(STORE);
        }
        if (!rows.hasPlaces(a, i, n) || !rows.hasPlaces(b, j, n)) {
            return found(PLACE);
        }
        System.arraycopy(rows.items, Rows.start(a) + i, rows.items, Rows.start(b) + j, n);
        return unfound(n);
    }

    public int drop(int row) {
        if (!isRow(row)) {
            return BAD;
        }
        if (rows.isMissing(row)) {
            return found(NULL);
        }
        return unfound(rows.forget(row));
    }

    // ---- houses, acts.

    public int feed(int letter) {
        if (!isWithin(letter, 0, 255)) {
            return BAD;
        }
        if (tape.isFull()) {
            return FULL;
        }
        return tape.put(letter);
    }

    public int house() {
        boolean isRead = tape.readWhole();
        tape.length = 0;
        if (!isRead) {
            return FAULTS_FROM - tape.at;
        }
        now.become(tape.draft);
        acts.forgetAll();
        return now.hearths;
    }

    public int fault() {
        return tape.latestFault;
    }

    public int days(int n) {
        if (!now.stands()) {
            return STATE;
        }
        if (!isWithin(n, 1, DAYS_MOST)) {
            return BAD;
        }
        if (now.day + n > DAY_MOST) {
            return FULL;
        }
        for (int d = 0; d < n; d++) {
            acts.keep(now);
            now.passDay();
        }
        return now.litBits();
    }

    public int peg(int pair, int in) {
        if (!isPair(pair) || !isWithin(in, 0, 1)) {
            return BAD;
        }
        if (now.pegIn[pair] == in) {
            return STATE;
        }
        acts.keep(now);
        now.pegIn[pair] = in;
        return now.pegBits();
    }

    public int move(int pair, int hearth) {
        if (!isPair(pair) || !isHearth(hearth)) {
            return BAD;
        }
        int was = now.place[pair];
        if (was == hearth) {
            return STATE;
        }
        acts.keep(now);
        now.place[pair] = hearth;
        return was;
    }

    public int light(int hearth, int v) {
        if (!isHearth(hearth) || !isWithin(v, 0, FIRE_SET_MOST)) {
            return BAD;
        }
        int was = now.fire[hearth];
        acts.keep(now);
        now.fire[hearth] = v;
        return was;
    }

    public int weather(int v) {
        if (!now.stands()) {
            return STATE;
        }
        if (!isWithin(v, 0, WARM_MOST)) {
            return BAD;
        }
        int was = now.warm;
        acts.keep(now);
        now.warm = v;
        return was;
    }

    public int undo() {
        if (acts.kept == 0) {
            return STATE;
        }
        acts.bringBack(now);
        return acts.kept;
    }

    public int pair(int pair, int what) {
        if (!isPair(pair)) {
            return BAD;
        }
        switch (what) {
            case 0: return now.breath[pair];
            case 1: return now.place[pair];
            case 2: return now.pegIn[pair];
            case 3: return now.changeOf(pair);
            default: return BAD;
        }
    }

    public int hearth(int hearth, int what) {
        if (!isHearth(hearth)) {
            return BAD;
        }
        switch (what) {
            case 0: return now.fire[hearth];
            case 1: return now.isLit(hearth) ? 1 : 0;
            case 2: return now.pairBitsAt(hearth);
            case 3: return now.blownInto(hearth);
            default: return BAD;
        }
    }

    // ---- foretold.

    public int breath(int pair, int d) {
        if (!isPair(pair) || !isWithin(d, 0, FORETOLD_MOST)) {
            return BAD;
        }
        return foreteller.behind(now, d).breath[pair];
    }

    public int fire(int hearth, int d) {
        if (!isHearth(hearth) || !isWithin(d, 0, FORETOLD_MOST)) {
            return BAD;
        }
        return foreteller.behind(now, d).fire[hearth];
    }

    public int lit(int d) {
        if (!now.stands()) {
            return STATE;
        }
        if (!isWithin(d, 0, FORETOLD_MOST)) {
            return BAD;
        }
        return foreteller.behind(now, d).litBits();
    }

    public int empty(int what) {
        if (!now.stands()) {
            return STATE;
        }
        if (!isWithin(what, 0, 1)) {
            return BAD;
        }
        return foreteller.firstEmpty(now, what);
    }

    public int cold(int hearth) {
        if (!isHearth(hearth)) {
            return BAD;
        }
        return foreteller.firstCold(now, hearth);
    }

    public int best(int pair, int n, int what) {
        if (!isPair(pair) || !isWithin(n, 1, PLAN_MOST) || !isWithin(what, 0, 1)) {
            return BAD;
        }
        return foreteller.bestDay(now, pair, n, what);
    }

    public int draw(int n, int what) {
        if (!now.stands()) {
            return STATE;
        }
        if (!isWithin(n, 1, PLAN_MOST) || !isWithin(what, 0, 1)) {
            return BAD;
        }
        int pairs = foreteller.fewestDrawn(now, n);
        return what == 1 || pairs == NONE ? pairs : Integer.bitCount(pairs);
    }

    public int rests(int one, int other, int n, int k) {
        if (!isPair(one) || !isPair(other) || one == other) {
            return BAD;
        }
        if (!isWithin(n, WAIT_DAYS_LEAST, WAIT_DAYS_MOST) || k < -1) {
            return BAD;
        }
        foreteller.weighWaits(now, one, other, n);
        return foreteller.restingWaits(k);
    }

    public int fits(int pair, int row, int i, int n, int what) {
        if (!isPair(pair) || !isRow(row) || !isWithin(n, 1, TOLD_MOST) || !isWithin(what, 0, 4)) {
            return BAD;
        }
        if (rows.isMissing(row)) {
            return found(NULL);
        }
        if (!rows.hasPlaces(row, i, n)) {
            return found(PLACE);
        }
        return unfound(foreteller.fitting(now, pair, rows.items, Rows.start(row) + i, n, what));
    }

    public int chance(int pair, int n, int c, int what) {
        if (!isPair(pair) || !isWithin(n, 0, CHANCE_DAYS_MOST)) {
            return BAD;
        }
        if (!isWithin(c, 0, TENTHS) || !isWithin(what, 0, 1)) {
            return BAD;
        }
        int above = foreteller.keptOf(now, pair, n, c);
        int below = power(TENTHS, n);
        int shared = greatestShared(above, below);
        if (shared == 0) {
            return BAD;
        }
        return (what == 0 ? above : below) / shared;
    }

    public int drawn(int n, int seed, int what) {
        if (!now.stands()) {
            return STATE;
        }
        if (!isWithin(n, 0, FORETOLD_MOST) || !isWithin(seed, 1, SEED_MOST) || !isWithin(what, 0, 1)) {
            return BAD;
        }
        House then = foreteller.behindSummer(now, n, seed);
        return what == 0 ? then.fireInAll() : then.breathInAll();
    }

    public int image(int k) {
        if (!isWithin(k, 0, 1)) {
            return BAD;
        }
        if (!now.stands()) {
            return STATE;
        }
        images[k].become(now);
        return 1;
    }

    public int restore(int k) {
        if (!isWithin(k, 0, 1)) {
            return BAD;
        }
        if (!images[k].stands()) {
            return STATE;
        }
        now.become(images[k]);
        acts.forgetAll();
        return 1;
    }

    // ---- asked.

    public int kind(int pair) {
        if (!isPair(pair)) {
            return BAD;
        }
        return now.kinds[pair];
    }

    public int as(int pair, int kind) {
        if (!isPair(pair) || !isWithin(kind, 0, KIND_MOST)) {
            return BAD;
        }
        if (!isOneOf(now.kinds[pair], kind)) {
            return found(NOT_THAT_KIND);
        }
        return unfound(pair);
    }

    public int ask(int pair, int what) {
        if (!isPair(pair) || !isWithin(what, 0, 1)) {
            return BAD;
        }
        return asker.answer(now, pair, what);
    }

    public int trace(int i) {
        if (!isWithin(i, 0, asker.traced - 1)) {
            return NONE;
        }
        return asker.numbers[i];
    }

    public int count(int what) {
        switch (what) {
            case 0: return rows.present();
            case 1: return now.hearths;
            case 2: return now.pairs;
            case 3: return now.day;
            case 4: return now.warm;
            case 5: return now.takes;
            case 6: return now.litBits();
            case 7: return now.pegBits();
            case 8: return acts.kept;
            case 9: return tape.length;
            default: return BAD;
        }
    }

    public int status() {
        return finding;
    }

    private int found(int number) {
        finding = number;
        return FINDINGS_FROM - number;
    }

    private int unfound(int answer) {
        finding = 0;
        return answer;
    }

    private boolean isPair(int pair) {
        return isWithin(pair, 0, now.pairs - 1);
    }

    private boolean isHearth(int hearth) {
        return isWithin(hearth, 0, now.hearths - 1);
    }

    private static boolean isRow(int row) {
        return isWithin(row, 0, Rows.MOST - 1);
    }

    private static boolean isWithin(int v, int least, int most) {
        return v >= least && v <= most;
    }

    private static boolean isOneOf(int kind, int asked) {
        int at = kind;
        for (int step = 0; step <= KIND_MOST && isWithin(at, 0, KIND_MOST); step++) {
            if (at == asked) {
                return true;
            }
            at = PARENT[at];
        }
        return false;
    }

    private static int power(int base, int times) {
        int product = 1;
        for (int i = 0; i < times; i++) {
            product *= base;
        }
        return product;
    }

    private static int greatestShared(int a, int b) {
        int more = a;
        int less = b;
        // Euclid needs some 45 steps at most for numbers of 31 bits.
        for (int step = 0; step < 64 && less != 0; step++) {
            int rest = more % less;
            more = less;
            less = rest;
        }
        return more;
    }

    /** ROWS of numbers; all their ITEMS stand in one array, so that no call makes another. */
    private static final class Rows {
        static final int MOST = 8, ITEMS_MOST = 40;
        private static final int MISSING = -1;

        final int[] lanes;
        final int[] lengths;
        final int[] items;

        Rows() {
            lanes = new int[MOST];
            lengths = new int[MOST];
            items = new int[MOST * ITEMS_MOST];
            for (int row = 0; row < MOST; row++) {
                lanes[row] = MISSING;
            }
        }

        static int start(int row) {
            return row * ITEMS_MOST;
        }

        boolean isMissing(int row) {
            return lanes[row] == MISSING;
        }

        boolean hasPlaces(int row, int from, int n) {
            // Not from + n, which could pass the greatest int.
            return from >= 0 && n >= 0 && from <= lengths[row] - n;
        }

        void make(int row, int lane, int n) {
            lanes[row] = lane;
            lengths[row] = n;
            for (int i = 0; i < n; i++) {
                items[start(row) + i] = 0;
            }
        }

        int put(int row, int i, int v) {
            int cut = cutToLane(lanes[row], v);
            items[start(row) + i] = cut;
            return cut;
        }

        int forget(int row) {
            lanes[row] = MISSING;
            return lengths[row];
        }

        int present() {
            int n = 0;
            for (int row = 0; row < MOST; row++) {
                n += isMissing(row) ? 0 : 1;
            }
            return n;
        }

        private static int cutToLane(int lane, int v) {
            switch (lane) {
                case 0: return (byte) v;
                case 1: return (short) v;
                default: return v;
            }
        }
    }

    /** THE TAPE, and the reading of it into a draft, so that a FAULT leaves the HOUSE alone. */
    private static final class Tape {
        private static final int BYTES_MOST = 100, FIGURES_MOST = 2;
        private static final int CANNOT_STAND = 1, NOT_AS_TOLD = 2, NO_ROOM = 3;
        private static final int NO_NUMBER = -1;

        final House draft;
        private final int[] bytes;
        int length;
        int at;
        int latestFault;

        Tape() {
            draft = new House();
            bytes = new int[BYTES_MOST];
            length = 0;
            at = 0;
            latestFault = 0;
        }

        boolean isFull() {
            return length >= BYTES_MOST;
        }

        int put(int letter) {
            bytes[length] = letter;
            length++;
            return length;
        }

        /** Whether it is a HOUSE; if not, the place of the FAULT is where the reading stays. */
        boolean readWhole() {
            at = 0;
            draft.day = 0;
            draft.hearths = 0;
            draft.pairs = 0;
            return readLaw() && readHearths() && readPairs();
        }

        private boolean readLaw() {
            if (!takeByte('h')) {
                return false;
            }
            draft.warm = takeNumber(0, WARM_MOST);
            if (draft.warm == NO_NUMBER || !takeByte(',')) {
                return false;
            }
            draft.takes = takeNumber(1, 9);
            return draft.takes != NO_NUMBER && takeByte(';');
        }

        private boolean readHearths() {
            for (int h = 0; h <= House.HEARTHS_MOST; h++) {
                if (h >= House.HEARTHS_LEAST && !standsHere('f')) {
                    return true;
                }
                if (h == House.HEARTHS_MOST) {
                    return refuse(NO_ROOM);
                }
                if (!readHearth(h)) {
                    return false;
                }
            }
            return true;
        }

        private boolean readHearth(int h) {
            if (!takeByte('f')) {
                return false;
            }
            draft.fire[h] = takeNumber(0, FIRE_SET_MOST);
            draft.hearths = h + 1;
            return draft.fire[h] != NO_NUMBER && takeByte(';');
        }

        private boolean readPairs() {
            for (int p = 0; p <= House.PAIRS_MOST; p++) {
                if (at >= length) {
                    return true;
                }
                int kind = kindOfLetter(bytes[at]);
                if (kind == 0) {
                    return refuse(CANNOT_STAND);
                }
                if (p == House.PAIRS_MOST) {
                    return refuse(NO_ROOM);
                }
                at++;
                draft.kinds[p] = kind;
                if (!readPair(p)) {
                    return false;
                }
            }
            return true;
        }

        private boolean readPair(int p) {
            draft.breath[p] = takeNumber(0, House.BREATH_MOST);
            if (draft.breath[p] == NO_NUMBER || !takeByte(',')) {
                return false;
            }
            draft.place[p] = takeNumber(0, draft.hearths - 1);
            if (draft.place[p] == NO_NUMBER || !takeByte(',')) {
                return false;
            }
            draft.pegIn[p] = takeNumber(0, 1);
            draft.pairs = p + 1;
            return draft.pegIn[p] != NO_NUMBER && takeByte(';');
        }

        private boolean standsHere(int letter) {
            return at < length && bytes[at] == letter;
        }

        private boolean takeByte(int letter) {
            if (!standsHere(letter)) {
                return refuse(CANNOT_STAND);
            }
            at++;
            return true;
        }

        private int takeNumber(int least, int most) {
            int number = 0;
            int figures = 0;
            for (int i = at; i < length && isFigure(bytes[i]) && figures <= FIGURES_MOST; i++) {
                number = number * 10 + bytes[i] - '0';
                figures++;
            }
            if (figures == 0 || figures > FIGURES_MOST) {
                refuse(CANNOT_STAND);
                return NO_NUMBER;
            }
            if (!isWithin(number, least, most)) {
                refuse(NOT_AS_TOLD);
                return NO_NUMBER;
            }
            at += figures;
            return number;
        }

        private boolean refuse(int number) {
            latestFault = number;
            return false;
        }

        private static boolean isFigure(int letter) {
            return isWithin(letter, '0', '9');
        }

        private static int kindOfLetter(int letter) {
            switch (letter) {
                case 'l': return House.LEATHER;
                case 'o': return House.OLD;
                case 's': return House.STAG;
                case 't': return House.TIN;
                case 'b': return House.BRASS;
                default: return 0;
            }
        }
    }

    /** A HOUSE at the beginning of a DAY; one without HEARTHS is none. */
    private static final class House {
        static final int HEARTHS_LEAST = 2, HEARTHS_MOST = 8, PAIRS_MOST = 7;
        static final int BREATH_MOST = 40, FIRE_MOST = 99;
        static final int LEATHER = 1, OLD = 2, STAG = 3, TIN = 4, BRASS = 5;
        private static final int BLOW = 4, CATCHES_FROM = 10, DAYS_OF_WEATHER = 4;

        int day;
        int warm;
        int takes;
        int hearths;
        int pairs;
        final int[] fire;
        final int[] kinds;
        final int[] breath;
        final int[] place;
        final int[] pegIn;
        private final int[] blown;

        House() {
            fire = new int[HEARTHS_MOST];
            kinds = new int[PAIRS_MOST];
            breath = new int[PAIRS_MOST];
            place = new int[PAIRS_MOST];
            pegIn = new int[PAIRS_MOST];
            blown = new int[HEARTHS_MOST];
        }

        boolean stands() {
            return hearths > 0;
        }

        void become(House other) {
            day = other.day;
            warm = other.warm;
            takes = other.takes;
            hearths = other.hearths;
            pairs = other.pairs;
            System.arraycopy(other.fire, 0, fire, 0, HEARTHS_MOST);
            System.arraycopy(other.kinds, 0, kinds, 0, PAIRS_MOST);
            System.arraycopy(other.breath, 0, breath, 0, PAIRS_MOST);
            System.arraycopy(other.place, 0, place, 0, PAIRS_MOST);
            System.arraycopy(other.pegIn, 0, pegIn, 0, PAIRS_MOST);
        }

        boolean isLit(int h) {
            return fire[h] > 0;
        }

        int litBits() {
            int bits = 0;
            for (int h = 0; h < hearths; h++) {
                bits |= isLit(h) ? 1 << h : 0;
            }
            return bits;
        }

        boolean isAllLit() {
            return litBits() == (1 << hearths) - 1;
        }

        int pegBits() {
            int bits = 0;
            for (int p = 0; p < pairs; p++) {
                bits |= pegIn[p] << p;
            }
            return bits;
        }

        int pairBitsAt(int h) {
            int bits = 0;
            for (int p = 0; p < pairs; p++) {
                bits |= place[p] == h ? 1 << p : 0;
            }
            return bits;
        }

        int fireInAll() {
            int sum = 0;
            for (int h = 0; h < hearths; h++) {
                sum += fire[h];
            }
            return sum;
        }

        int breathInAll() {
            int sum = 0;
            for (int p = 0; p < pairs; p++) {
                sum += breath[p];
            }
            return sum;
        }

        int firstWithoutBreath() {
            for (int p = 0; p < pairs; p++) {
                if (breath[p] == 0) {
                    return p;
                }
            }
            return NONE;
        }

        int blownInto(int h) {
            gatherBlown();
            return blown[h];
        }

        /** By how much the BREATH of a PAIR will be more on this DAY, or less (below 0). */
        int changeOf(int p) {
            if (pegIn[p] == 0) {
                return -blownBy(p);
            }
            int leather = isWarmDay() ? 1 : 0;
            switch (kinds[p]) {
                case LEATHER: return -Math.min(leather, breath[p]);
                case OLD: return -Math.min(2 * leather + 1, breath[p]);
                case STAG: return isLit(place[p]) ? 0 : -Math.min(leather, breath[p]);
                case BRASS: return Math.min(leather, BREATH_MOST - breath[p]);
                default: return 0;
            }
        }

        /** All goes by what there is as the DAY begins: hence BLOWN first, and FIRE last. */
        void passDay() {
            gatherBlown();
            for (int p = 0; p < pairs; p++) {
                breath[p] += changeOf(p);
            }
            burnAll();
            day++;
        }

        private boolean isWarmDay() {
            return (warm >> day % DAYS_OF_WEATHER & 1) == 1;
        }

        private int blownBy(int p) {
            return pegIn[p] == 1 ? 0 : Math.min(BLOW, breath[p]);
        }

        private void gatherBlown() {
            for (int h = 0; h < hearths; h++) {
                blown[h] = 0;
            }
            for (int p = 0; p < pairs; p++) {
                blown[place[p]] += blownBy(p);
            }
        }

        private void burnAll() {
            int leftHad = 0;
            for (int h = 0; h < hearths; h++) {
                int had = fire[h];
                int rightHas = h + 1 < hearths ? fire[h + 1] : 0;
                fire[h] = Math.min(burnt(had, blown[h], Math.max(leftHad, rightHas)), FIRE_MOST);
                leftHad = had;
            }
        }

        private int burnt(int had, int into, int beside) {
            if (had > 0) {
                return had - 1 + into;
            }
            if (into >= takes) {
                return into;
            }
            return beside >= CATCHES_FROM ? 1 : 0;
        }
    }

    /** What was there before each of the latest ACTS, in a ring that forgets the oldest. */
    private static final class Acts {
        private static final int MOST = 24;

        private final House[] before;
        private int next;
        int kept;

        Acts() {
            before = new House[MOST];
            for (int i = 0; i < MOST; i++) {
                before[i] = new House();
            }
            next = 0;
            kept = 0;
        }

        void keep(House house) {
            before[next].become(house);
            next = (next + 1) % MOST;
            kept = Math.min(kept + 1, MOST);
        }

        void bringBack(House house) {
            next = (next + MOST - 1) % MOST;
            house.become(before[next]);
            kept--;
        }

        void forgetAll() {
            kept = 0;
        }
    }

    /** What is FORETOLD: all of it is tried on a HOUSE of its own, so that nothing changes. */
    private static final class Foreteller {
        private static final int WAITS = 5;
        private static final int SORTS = 0, WARMS = 1, PEGS = 2, HADS = 3;
        private static final int ALWAYS_WARM = 15, NEVER_WARM = 0;
        private static final int[] LEAST_SUPPOSED = {1, 0, 0, 0, 0};
        private static final int[] MOST_SUPPOSED = {5, 15, 1, 40, 40};

        private final House trial;
        private final int[] oneGets;
        private final int[] otherGets;

        Foreteller() {
            trial = new House();
            oneGets = new int[WAITS * WAITS];
            otherGets = new int[WAITS * WAITS];
        }

        House behind(House now, int d) {
            trial.become(now);
            passDays(d);
            return trial;
        }

        int firstEmpty(House now, int what) {
            trial.become(now);
            for (int d = 0; d <= FORETOLD_MOST; d++) {
                int p = trial.firstWithoutBreath();
                if (p != NONE) {
                    return what == 0 ? p : d;
                }
                trial.passDay();
            }
            return NONE;
        }

        int firstCold(House now, int h) {
            trial.become(now);
            for (int d = 0; d <= FORETOLD_MOST; d++) {
                if (!trial.isLit(h)) {
                    return d;
                }
                trial.passDay();
            }
            return NONE;
        }

        int bestDay(House now, int p, int n, int what) {
            int bestWait = 0;
            int most = -1;
            for (int k = 0; k < n; k++) {
                trial.become(now);
                passWaiting(p, k, p, k, n);
                int fire = trial.fire[trial.place[p]];
                if (fire > most) {
                    most = fire;
                    bestWait = k;
                }
            }
            return what == 0 ? bestWait : most;
        }

        /** The fewest PAIRS (bits), of several the least, that light all; NONE. */
        int fewestDrawn(House now, int n) {
            for (int size = 0; size <= now.pairs; size++) {
                for (int set = 0; set < 1 << now.pairs; set++) {
                    if (Integer.bitCount(set) == size && lightsAll(now, set, n)) {
                        return set;
                    }
                }
            }
            return NONE;
        }

        /** What each of two PAIRS gets by all their waits. */
        void weighWaits(House now, int one, int other, int n) {
            for (int i = 0; i < WAITS; i++) {
                for (int j = 0; j < WAITS; j++) {
                    trial.become(now);
                    passWaiting(one, i, other, j, n);
                    oneGets[i * WAITS + j] = trial.fire[trial.place[one]];
                    otherGets[i * WAITS + j] = trial.fire[trial.place[other]];
                }
            }
        }

        /** Of the waits weighed last, how many rest (k = -1), or the k-th that does; NONE. */
        int restingWaits(int k) {
            int found = 0;
            for (int i = 0; i < WAITS; i++) {
                for (int j = 0; j < WAITS; j++) {
                    if (!isRest(i, j)) {
                        continue;
                    }
                    if (found == k) {
                        return 10 * i + j;
                    }
                    found++;
                }
            }
            return k == -1 ? found : NONE;
        }

        /** What of the things supposed is so by n numbers of told: a set, how many, the least. */
        int fitting(House now, int p, int[] told, int from, int n, int what) {
            int set = 0;
            int many = 0;
            int least = NONE;
            for (int v = LEAST_SUPPOSED[what]; v <= MOST_SUPPOSED[what]; v++) {
                trial.become(now);
                suppose(p, what, v);
                if (!isTold(p, told, from, n)) {
                    continue;
                }
                least = many == 0 ? v : least;
                many++;
                set |= what < HADS ? 1 << v : 0;
            }
            if (what < HADS) {
                return set;
            }
            return what == HADS ? many : least;
        }

        /** By how many of 10 to the n-th the PAIR has BREATH behind n DAYS. */
        int keptOf(House now, int p, int n, int c) {
            int sum = 0;
            for (int warmDays = 0; warmDays < 1 << n; warmDays++) {
                if (isKept(now, p, n, warmDays)) {
                    int warm = Integer.bitCount(warmDays);
                    sum += power(c, warm) * power(TENTHS - c, n - warm);
                }
            }
            return sum;
        }

        House behindSummer(House now, int n, int seed) {
            trial.become(now);
            long x = seed;
            for (int d = 0; d < n; d++) {
                x = x * 16807L % 2147483647L;
                trial.warm = (int) (x % 16);
                if (x % 3 == 0 && trial.pairs > 0) {
                    int p = (int) (x % trial.pairs);
                    trial.pegIn[p] = 1 - trial.pegIn[p];
                }
                trial.passDay();
            }
            return trial;
        }

        private void passDays(int d) {
            for (int i = 0; i < d; i++) {
                trial.passDay();
            }
        }

        /** Both PEGS are put in now; each is drawn behind its own wait. */
        private void passWaiting(int one, int oneWaits, int other, int otherWaits, int n) {
            trial.pegIn[one] = 1;
            trial.pegIn[other] = 1;
            for (int d = 0; d < n; d++) {
                if (d == oneWaits) {
                    trial.pegIn[one] = 0;
                }
                if (d == otherWaits) {
                    trial.pegIn[other] = 0;
                }
                trial.passDay();
            }
        }

        private boolean lightsAll(House now, int set, int n) {
            trial.become(now);
            for (int p = 0; p < trial.pairs; p++) {
                if ((set >> p & 1) == 1) {
                    trial.pegIn[p] = 0;
                }
            }
            passDays(n);
            return trial.isAllLit();
        }

        private boolean isRest(int i, int j) {
            int at = i * WAITS + j;
            for (int wait = 0; wait < WAITS; wait++) {
                if (oneGets[wait * WAITS + j] > oneGets[at] || otherGets[i * WAITS + wait] > otherGets[at]) {
                    return false;
                }
            }
            return true;
        }

        private void suppose(int p, int what, int v) {
            switch (what) {
                case SORTS: trial.kinds[p] = v; break;
                case WARMS: trial.warm = v; break;
                case PEGS: trial.pegIn[p] = v; break;
                default: trial.breath[p] = v; break;
            }
        }

        private boolean isTold(int p, int[] told, int from, int n) {
            for (int d = 0; d < n; d++) {
                trial.passDay();
                if (trial.breath[p] != told[from + d]) {
                    return false;
                }
            }
            return true;
        }

        private boolean isKept(House now, int p, int n, int warmDays) {
            trial.become(now);
            for (int d = 0; d < n; d++) {
                trial.warm = (warmDays >> d & 1) == 1 ? ALWAYS_WARM : NEVER_WARM;
                trial.passDay();
            }
            return trial.breath[p] > 0;
        }
    }

    /** ASKS of PAIRS; the BODIES are known by their numbers. */
    private static final class Asker {
        private static final int TRACE_MOST = 16, DEEPEST = 16;

        /** By KIND, the BODY told for it, or for the nearest KIND that it is, too, or lent. */
        private static final int[] SIZE_BODY = {10, 11, 12, 11, 13, 14};
        private static final int[] MARK_BODY = {20, 21, 24, 22, 23, 23};

        final int[] numbers;
        int traced;

        Asker() {
            numbers = new int[TRACE_MOST];
            traced = 0;
        }

        int answer(House now, int p, int what) {
            traced = 0;
            int kind = now.kinds[p];
            return give(what == 0 ? SIZE_BODY[kind] : MARK_BODY[kind], now, p, 0);
        }

        private int give(int body, House now, int p, int depth) {
            if (depth > DEEPEST) {
                return 0;
            }
            leave(body);
            int deeper = depth + 1;
            switch (body) {
                case 10: return now.breath[p];
                case 11: return give(10, now, p, deeper) + give(MARK_BODY[now.kinds[p]], now, p, deeper);
                case 12: return -give(11, now, p, deeper);
                case 13: return give(10, now, p, deeper) - 100;
                case 14: return 2 * give(13, now, p, deeper);
                case 20: return p;
                case 21: return give(20, now, p, deeper) + now.place[p];
                case 22: return give(21, now, p, deeper) - 1000;
                case 23: return give(20, now, p, deeper) - give(SIZE_BODY[now.kinds[p]], now, p, deeper);
                case 24: return 2 * give(21, now, p, deeper);
                default: return 0;
            }
        }

        private void leave(int body) {
            if (traced < TRACE_MOST) {
                numbers[traced] = body;
                traced++;
            }
        }
    }
}
