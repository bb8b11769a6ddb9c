import java.math.BigInteger;
import java.util.ArrayDeque;
import java.util.ArrayList;
import java.util.Arrays;
import java.util.List;

/** The document's words once more, as plainly as the Java library allows; ModelTest holds the class to it. */
final class Model {
    private static final int NONE = -1000000, BAD = -1000001, STATE = -1000002, FULL = -1000003;
    private static final String SORTS = "lostb";
    private static final List<List<Integer>> IS = List.of(
        List.of(0), List.of(0, 1), List.of(0, 1, 2), List.of(0, 1, 3), List.of(0, 4), List.of(0, 4, 5));

    /** A PAIR is {KIND, BREATH, HEARTH, PEG}. */
    private static final class State {
        int day, warm, takes;
        int[] fire;
        int[][] pairs;

        State again() {
            State s = new State();
            s.day = day;
            s.warm = warm;
            s.takes = takes;
            s.fire = fire.clone();
            s.pairs = new int[pairs.length][];
            for (int p = 0; p < pairs.length; p++) {
                s.pairs[p] = pairs[p].clone();
            }
            return s;
        }

        State next() {
            return next((warm & 1 << day % 4) != 0);
        }

        State next(boolean isWarm) {
            State s = again();
            int[] blown = new int[fire.length];
            for (int p = 0; p < pairs.length; p++) {
                int had = pairs[p][1];
                int hearth = pairs[p][2];
                if (pairs[p][3] == 0) {
                    int blow = had < 4 ? had : 4;
                    blown[hearth] += blow;
                    s.pairs[p][1] = had - blow;
                    continue;
                }
                int then = had;
                if (pairs[p][0] == 1 && isWarm) then = had - 1;
                if (pairs[p][0] == 2) then = had - (isWarm ? 3 : 1);
                if (pairs[p][0] == 3 && isWarm && fire[hearth] == 0) then = had - 1;
                if (pairs[p][0] == 5 && isWarm) then = had + 1;
                s.pairs[p][1] = then < 0 ? 0 : then > 40 ? 40 : then;
            }
            for (int h = 0; h < fire.length; h++) {
                boolean wasLit = fire[h] != 0;
                boolean takesFire = wasLit || blown[h] >= takes;
                boolean besideBurns = h > 0 && fire[h - 1] >= 10
                    || h < fire.length - 1 && fire[h + 1] >= 10;
                int then = wasLit ? fire[h] - 1 : 0;
                if (takesFire) then += blown[h];
                if (!takesFire && besideBurns) then = 1;
                s.fire[h] = then > 99 ? 99 : then;
            }
            s.day++;
            return s;
        }

        State on(int d) {
            State s = this;
            for (int i = 0; i < d; i++) s = s.next();
            return s;
        }

        int lit() {
            int bits = 0;
            for (int h = 0; h < fire.length; h++) if (fire[h] > 0) bits += 1 << h;
            return bits;
        }

        int pegs() {
            int bits = 0;
            for (int p = 0; p < pairs.length; p++) if (pairs[p][3] == 1) bits += 1 << p;
            return bits;
        }
    }

    private final int[][] rows = new int[8][];
    private final int[] lanes = new int[8];
    private final StringBuilder tape = new StringBuilder();
    private final State[] images = new State[2];
    private final ArrayDeque<State> past = new ArrayDeque<>();
    private final List<Integer> bodies = new ArrayList<>();
    private State house = null;
    private int fault = 0;
    private int status = 0;

    private int found(int number) {
        status = number;
        return number == 0 ? 0 : -1000010 - number;
    }

    private boolean noRow(int r) { return r < 0 || r > 7; }
    private boolean noPair(int p) { return house == null || p < 0 || p >= house.pairs.length; }
    private boolean noHearth(int h) { return house == null || h < 0 || h >= house.fire.length; }
    private static boolean out(int v, int least, int most) { return v < least || v > most; }

    private boolean noPlace(int r, int i, int n) {
        return i < 0 || n < 0 || (long) i + n > rows[r].length;
    }

    int row(int r, int lane, int n) {
        if (noRow(r) || out(lane, 0, 2) || n > 40) return BAD;
        if (n < 0) return found(4);
        found(0);
        rows[r] = new int[n];
        lanes[r] = lane;
        return n;
    }

    int set(int r, int i, int v) {
        if (noRow(r)) return BAD;
        if (rows[r] == null) return found(1);
        if (noPlace(r, i, 1)) return found(2);
        found(0);
        int unused = new int[] {24, 16, 0}[lanes[r]];
        return rows[r][i] = v << unused >> unused;
    }

    int copy(int a, int i, int b, int j, int n) {
        if (noRow(a) || noRow(b)) return BAD;
        if (rows[a] == null || rows[b] == null) return found(1);
        if (lanes[a] != lanes[b]) return found(5);
        if (noPlace(a, i, n) || noPlace(b, j, n)) return found(2);
        found(0);
        int[] were = rows[a].clone();
        for (int k = 0; k < n; k++) rows[b][j + k] = were[i + k];
        return n;
    }

    int drop(int r) {
        if (noRow(r)) return BAD;
        if (rows[r] == null) return found(1);
        found(0);
        int n = rows[r].length;
        rows[r] = null;
        return n;
    }

    int feed(int letter) {
        if (out(letter, 0, 255)) return BAD;
        if (tape.length() == 100) return FULL;
        return tape.append((char) letter).length();
    }

    /** The TOKENS of the tape, and "" for what is none; an end behind them. */
    private static List<String> tokens(String text, List<Integer> places) {
        List<String> tokens = new ArrayList<>();
        int at = 0;
        while (at < text.length()) {
            int end = at;
            while (end < text.length() && text.charAt(end) >= '0' && text.charAt(end) <= '9') end++;
            if (end == at) end++;
            String token = text.substring(at, end);
            tokens.add(token.matches("[a-z]|[0-9]{1,2}|,|;") ? token : "");
            places.add(at);
            at = end;
        }
        tokens.add("end");
        places.add(text.length());
        return tokens;
    }

    /** By an automaton: what may stand next is a pattern, named by what stood before. */
    int house() {
        List<Integer> places = new ArrayList<>();
        List<String> tokens = tokens(tape.toString(), places);
        tape.setLength(0);
        State s = new State();
        List<Integer> fires = new ArrayList<>();
        List<int[]> pairs = new ArrayList<>();
        String want = "h";
        int field = 0;
        String part = "";
        for (int t = 0; t < tokens.size(); t++) {
            String token = tokens.get(t);
            int wrong = 0;
            if (want.equals("part")) {
                boolean mayBeHearth = pairs.isEmpty();
                boolean mayBePair = fires.size() >= 2;
                if (token.equals("end") && fires.size() >= 2) {
                    s.fire = fires.stream().mapToInt(v -> v).toArray();
                    s.pairs = pairs.toArray(new int[0][]);
                    house = s;
                    past.clear();
                    return s.fire.length;
                }
                if (token.equals("f") && mayBeHearth) {
                    wrong = fires.size() == 8 ? 3 : 0;
                } else if (token.length() == 1 && SORTS.contains(token) && mayBePair) {
                    wrong = pairs.size() == 7 ? 3 : 0;
                    pairs.add(new int[] {SORTS.indexOf(token) + 1, 0, 0, 0});
                } else {
                    wrong = 1;
                }
                part = token.equals("f") ? "f" : "pair";
                field = 0;
                want = "number";
            } else if (want.equals("h")) {
                wrong = token.equals("h") ? 0 : 1;
                part = "h";
                want = "number";
            } else if (want.equals("number")) {
                if (!token.matches("[0-9]{1,2}")) {
                    wrong = 1;
                } else {
                    int v = Integer.parseInt(token);
                    wrong = isTold(part, field, v, fires.size()) ? 0 : 2;
                    if (part.equals("f")) fires.add(v);
                    if (part.equals("pair")) pairs.get(pairs.size() - 1)[field + 1] = v;
                    if (part.equals("h") && field == 0) s.warm = v;
                    if (part.equals("h") && field == 1) s.takes = v;
                }
                int last = part.equals("f") ? 0 : part.equals("h") ? 1 : 2;
                want = field == last ? ";" : ",";
                field++;
            } else {
                wrong = token.equals(want) ? 0 : 1;
                want = want.equals(",") ? "number" : "part";
            }
            if (wrong != 0) {
                fault = wrong;
                return -1000100 - places.get(t);
            }
        }
        throw new IllegalStateException("the end was passed");
    }

    private static boolean isTold(String part, int field, int v, int hearths) {
        if (part.equals("h")) return field == 0 ? v <= 15 : v >= 1 && v <= 9;
        if (part.equals("f")) return v <= 20;
        return field == 0 ? v <= 40 : field == 1 ? v < hearths : v <= 1;
    }

    int fault() {
        return fault;
    }

    private void act() {
        past.push(house.again());
        while (past.size() > 24) past.removeLast();
    }

    int days(int n) {
        if (house == null) return STATE;
        if (out(n, 1, 24)) return BAD;
        if (house.day + n > 9999) return FULL;
        for (int i = 0; i < n; i++) {
            act();
            house = house.next();
        }
        return house.lit();
    }

    int peg(int p, int in) {
        if (noPair(p) || out(in, 0, 1)) return BAD;
        if (house.pairs[p][3] == in) return STATE;
        act();
        house.pairs[p][3] = in;
        return house.pegs();
    }

    int move(int p, int h) {
        if (noPair(p) || noHearth(h)) return BAD;
        int was = house.pairs[p][2];
        if (was == h) return STATE;
        act();
        house.pairs[p][2] = h;
        return was;
    }

    int light(int h, int v) {
        if (noHearth(h) || out(v, 0, 20)) return BAD;
        act();
        int was = house.fire[h];
        house.fire[h] = v;
        return was;
    }

    int weather(int v) {
        if (house == null) return STATE;
        if (out(v, 0, 15)) return BAD;
        act();
        int was = house.warm;
        house.warm = v;
        return was;
    }

    int undo() {
        if (past.isEmpty()) return STATE;
        house = past.pop();
        return past.size();
    }

    int pair(int p, int what) {
        if (noPair(p) || out(what, 0, 3)) return BAD;
        if (what == 3) return house.next().pairs[p][1] - house.pairs[p][1];
        return house.pairs[p][what + 1];
    }

    int hearth(int h, int what) {
        if (noHearth(h) || out(what, 0, 3)) return BAD;
        int here = 0;
        int blown = 0;
        for (int p = 0; p < house.pairs.length; p++) {
            if (house.pairs[p][2] != h) continue;
            here += 1 << p;
            if (house.pairs[p][3] == 0) blown += house.pairs[p][1] - house.next().pairs[p][1];
        }
        return new int[] {house.fire[h], house.fire[h] > 0 ? 1 : 0, here, blown}[what];
    }

    int breath(int p, int d) {
        return noPair(p) || out(d, 0, 60) ? BAD : house.on(d).pairs[p][1];
    }

    int fire(int h, int d) {
        return noHearth(h) || out(d, 0, 60) ? BAD : house.on(d).fire[h];
    }

    int lit(int d) {
        if (house == null) return STATE;
        return out(d, 0, 60) ? BAD : house.on(d).lit();
    }

    int empty(int what) {
        if (house == null) return STATE;
        if (out(what, 0, 1)) return BAD;
        int first = NONE;
        int least = 61;
        for (int p = house.pairs.length - 1; p >= 0; p--) {
            State s = house;
            for (int d = 0; d <= least && d <= 60; d++) {
                if (s.pairs[p][1] == 0) {
                    first = p;
                    least = d;
                }
                s = s.next();
            }
        }
        return first == NONE ? NONE : what == 0 ? first : least;
    }

    int cold(int h) {
        if (noHearth(h)) return BAD;
        for (int d = 0; d <= 60; d++) if (house.on(d).fire[h] == 0) return d;
        return NONE;
    }

    /** FIRE of the HEARTH of a PAIR behind n DAYS, when PAIRS wait so many DAYS each. */
    private int fireOf(int p, int n, int[] who, int[] waits) {
        State s = house.again();
        for (int d = 0; d < n; d++) {
            for (int i = 0; i < who.length; i++) s.pairs[who[i]][3] = d < waits[i] ? 1 : 0;
            s = s.next();
        }
        return s.fire[s.pairs[p][2]];
    }

    int best(int p, int n, int what) {
        if (noPair(p) || out(n, 1, 30) || out(what, 0, 1)) return BAD;
        int[] fires = new int[n];
        for (int k = 0; k < n; k++) fires[k] = fireOf(p, n, new int[] {p}, new int[] {k});
        int most = Arrays.stream(fires).max().getAsInt();
        if (what == 1) return most;
        for (int k = 0; k < n; k++) if (fires[k] == most) return k;
        throw new IllegalStateException();
    }

    int draw(int n, int what) {
        if (house == null) return STATE;
        if (out(n, 1, 30) || out(what, 0, 1)) return BAD;
        int least = NONE;
        for (int set = (1 << house.pairs.length) - 1; set >= 0; set--) {
            State s = house.again();
            for (int p = 0; p < s.pairs.length; p++) if ((set & 1 << p) != 0) s.pairs[p][3] = 0;
            boolean all = s.on(n).lit() == (1 << s.fire.length) - 1;
            if (all && (least == NONE || Integer.bitCount(set) <= Integer.bitCount(least))) least = set;
        }
        return least == NONE || what == 1 ? least : Integer.bitCount(least);
    }

    int rests(int one, int other, int n, int k) {
        if (noPair(one) || noPair(other) || one == other || out(n, 5, 20) || k < -1) return BAD;
        List<Integer> rests = new ArrayList<>();
        int[] who = {one, other};
        int[][][] gets = new int[2][5][5];
        for (int i = 0; i < 5; i++) {
            for (int j = 0; j < 5; j++) {
                gets[0][i][j] = fireOf(one, n, who, new int[] {i, j});
                gets[1][i][j] = fireOf(other, n, who, new int[] {i, j});
            }
        }
        for (int i = 0; i < 5; i++) {
            for (int j = 0; j < 5; j++) {
                int mostOne = 0;
                int mostOther = 0;
                for (int w = 0; w < 5; w++) {
                    mostOne = Math.max(mostOne, gets[0][w][j]);
                    mostOther = Math.max(mostOther, gets[1][i][w]);
                }
                if (gets[0][i][j] == mostOne && gets[1][i][j] == mostOther) rests.add(10 * i + j);
            }
        }
        return k == -1 ? rests.size() : k < rests.size() ? rests.get(k) : NONE;
    }

    private boolean isSo(State s, int p, int r, int i, int n) {
        for (int d = 1; d <= n; d++) if (s.on(d).pairs[p][1] != rows[r][i + d - 1]) return false;
        return true;
    }

    int fits(int p, int r, int i, int n, int what) {
        if (noPair(p) || noRow(r) || out(n, 1, 12) || out(what, 0, 4)) return BAD;
        if (rows[r] == null) return found(1);
        if (noPlace(r, i, n)) return found(2);
        found(0);
        List<Integer> so = new ArrayList<>();
        for (int v = 0; v <= 40; v++) {
            State s = house.again();
            if (what == 0 && out(v, 1, 5) || what == 1 && v > 15 || what == 2 && v > 1) continue;
            if (what == 0) s.pairs[p][0] = v;
            if (what == 1) s.warm = v;
            if (what == 2) s.pairs[p][3] = v;
            if (what >= 3) s.pairs[p][1] = v;
            if (isSo(s, p, r, i, n)) so.add(v);
        }
        if (what == 3) return so.size();
        if (what == 4) return so.isEmpty() ? NONE : so.get(0);
        return so.stream().mapToInt(v -> 1 << v).sum();
    }

    /** Of 10 to the n-th. */
    private static BigInteger kept(State s, int p, int n, int c) {
        if (n == 0) return s.pairs[p][1] > 0 ? BigInteger.ONE : BigInteger.ZERO;
        BigInteger warm = kept(s.next(true), p, n - 1, c).multiply(BigInteger.valueOf(c));
        BigInteger cold = kept(s.next(false), p, n - 1, c).multiply(BigInteger.valueOf(10 - c));
        return warm.add(cold);
    }

    int chance(int p, int n, int c, int what) {
        if (noPair(p) || out(n, 0, 8) || out(c, 0, 10) || out(what, 0, 1)) return BAD;
        BigInteger above = kept(house, p, n, c);
        BigInteger below = BigInteger.TEN.pow(n);
        return (what == 0 ? above : below).divide(above.gcd(below)).intValueExact();
    }

    int drawn(int n, int seed, int what) {
        if (house == null) return STATE;
        if (out(n, 0, 60) || out(seed, 1, 999999) || out(what, 0, 1)) return BAD;
        BigInteger x = BigInteger.valueOf(seed);
        State s = house.again();
        for (int d = 0; d < n; d++) {
            x = x.multiply(BigInteger.valueOf(16807)).mod(BigInteger.valueOf(2147483647));
            s.warm = x.intValueExact() % 16;
            if (x.intValueExact() % 3 == 0 && s.pairs.length > 0) {
                s.pairs[x.intValueExact() % s.pairs.length][3] ^= 1;
            }
            s = s.next();
        }
        return what == 0 ? Arrays.stream(s.fire).sum() : Arrays.stream(s.pairs).mapToInt(p -> p[1]).sum();
    }

    int image(int k) {
        if (out(k, 0, 1)) return BAD;
        if (house == null) return STATE;
        images[k] = house.again();
        return 1;
    }

    int restore(int k) {
        if (out(k, 0, 1)) return BAD;
        if (images[k] == null) return STATE;
        house = images[k].again();
        past.clear();
        return 1;
    }

    int kind(int p) {
        return noPair(p) ? BAD : house.pairs[p][0];
    }

    int as(int p, int kind) {
        if (noPair(p) || out(kind, 0, 5)) return BAD;
        if (!IS.get(house.pairs[p][0]).contains(kind)) return found(3);
        found(0);
        return p;
    }

    /** The KINDS as Java's own classes: each BODY stands where the document tells it. */
    private class Pair {
        final int p;

        Pair(int p) { this.p = p; }

        int size() { bodies.add(10); return house.pairs[p][1]; }

        int mark() { bodies.add(20); return p; }
    }

    private class Leather extends Pair {
        Leather(int p) { super(p); }

        @Override int size() { bodies.add(11); int lent = super.size(); return lent + mark(); }

        @Override int mark() { bodies.add(21); return super.mark() + house.pairs[p][2]; }
    }

    private class Old extends Leather {
        Old(int p) { super(p); }

        @Override int size() { bodies.add(12); return 0 - super.size(); }

        @Override int mark() { bodies.add(24); return super.mark() * 2; }
    }

    private class Stag extends Leather {
        Stag(int p) { super(p); }

        @Override int mark() { bodies.add(22); return super.mark() - 1000; }
    }

    private class Tin extends Pair {
        Tin(int p) { super(p); }

        @Override int size() { bodies.add(13); return super.size() - 100; }

        @Override int mark() { bodies.add(23); int lent = super.mark(); return lent - size(); }
    }

    private class Brass extends Tin {
        Brass(int p) { super(p); }

        @Override int size() { bodies.add(14); return super.size() * 2; }
    }

    int ask(int p, int what) {
        if (noPair(p) || out(what, 0, 1)) return BAD;
        bodies.clear();
        Pair pair = List.of(new Pair(p), new Leather(p), new Old(p), new Stag(p), new Tin(p), new Brass(p))
            .get(house.pairs[p][0]);
        return what == 0 ? pair.size() : pair.mark();
    }

    int trace(int i) {
        return i < 0 || i >= bodies.size() || i > 15 ? NONE : bodies.get(i);
    }

    int count(int what) {
        if (out(what, 0, 9)) return BAD;
        if (what == 0) return (int) Arrays.stream(rows).filter(r -> r != null).count();
        if (what == 8) return past.size();
        if (what == 9) return tape.length();
        if (house == null) return 0;
        return new int[] {house.fire.length, house.pairs.length, house.day, house.warm, house.takes,
            house.lit(), house.pegs()}[what - 1];
    }

    int status() {
        return status;
    }
}
