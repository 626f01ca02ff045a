import java.math.BigInteger;
import java.util.ArrayList;
import java.util.HashMap;
import java.util.HashSet;
import java.util.List;
import java.util.Map;
import java.util.Set;
import java.util.function.IntUnaryOperator;
import java.util.regex.Matcher;
import java.util.regex.Pattern;

/**
 * The document once more, written another way and without regard to room or speed,
 * so that a slip in the class is not made here too. It shares no code with it.
 */
final class Model {
    static final int BAD = -1, STATE = -2, FULL = -3, NONE = -4;

    static final class Fault extends RuntimeException {
        final int place, which;
        Fault(int place, int which) { super(null, null, false, false); this.place = place; this.which = which; }
    }

    static final class World {
        List<int[]> things = new ArrayList<>();
        Set<Integer> said = new HashSet<>();
        int height = 0, place = 0, rate = 1, minute = 0;
        int[] winds = {4, 4, 4, 4, 4};
        List<int[]> plan = new ArrayList<>();
        List<int[]> seen = new ArrayList<>();

        World copy() {
            World w = new World();
            for (int[] t : things) w.things.add(t.clone());
            w.said.addAll(said);
            w.height = height; w.place = place; w.rate = rate; w.minute = minute;
            w.winds = winds.clone();
            for (int[] s : plan) w.plan.add(s.clone());
            for (int[] s : seen) w.seen.add(s.clone());
            return w;
        }

        int liftOf(int i) {
            int kind = things.get(i)[0], weight = things.get(i)[1];
            boolean is = said.contains(i);
            if (kind == 0) return is ? 0 : weight;
            if (kind == 1) return is ? weight / 2 : weight;
            if (kind == 2) return 2 * (is ? 0 : weight);
            return is ? 0 - weight / 2 : weight;
        }

        int lift() {
            int sum = 0;
            for (int i = 0; i < things.size(); i++) sum += liftOf(i);
            if (sum < 0) return 0;
            return sum > 60 ? 60 : sum;
        }

        void step() {
            for (int[] s : plan) if (s[0] == minute) said.add(s[1]);
            int target = lift();
            for (int yard = 0; yard < rate; yard++) {
                if (height < target) height++;
                else if (height > target) height--;
            }
            int band = height < 10 ? 0 : height < 20 ? 1 : height < 30 ? 2 : height < 40 ? 3 : 4;
            place += winds[band] - 4;
            if (place < 0) place = 0;
            if (place > 99) place = 99;
            minute++;
        }

        /** heights, places behind 0 to n MINUTES. */
        int[][] path(int n) {
            World w = copy();
            int[][] p = new int[n + 1][];
            for (int t = 0; t <= n; t++) {
                p[t] = new int[] {w.height, w.place};
                w.step();
            }
            return p;
        }

        int falls() {
            int[][] p = path(60);
            for (int t = 1; t <= 60; t++) if (p[t][0] == 0) return t;
            return NONE;
        }

        int church(int c) {
            int[][] p = path(60);
            for (int t = 0; t <= 60; t++) if (p[t][0] == 0 && p[t][1] == c) return t;
            return NONE;
        }

        int top(int n) {
            int m = 0;
            for (int[] p : path(n)) m = Math.max(m, p[0]);
            return m;
        }

        boolean asSeen() {
            int[][] p = path(30);
            for (int[] s : seen) if (p[s[0]][0] != s[1]) return false;
            return true;
        }

        int saidBits() {
            int b = 0;
            for (int i : said) b += 1 << i;
            return b;
        }
    }

    World w = new World();
    final World[] images = new World[2];
    StringBuilder tape = new StringBuilder();
    int fault = 0, torn = 0;
    final Object[] sheets = new Object[4];

    static boolean out(int v, int a, int b) { return v < a || v > b; }
    boolean noThing(int i) { return out(i, 0, w.things.size() - 1); }

    int feed(int c) {
        if (out(c, 0, 127)) return BAD;
        if (tape.length() == 160) return FULL;
        tape.append((char) c);
        return tape.length();
    }

    int end(int n) {
        int had = tape.length();
        if (out(n, 0, had)) return BAD;
        tape.setLength(n);
        return had;
    }

    // ---- reading, by a regular expression at each place

    static final Pattern BLANKS = Pattern.compile(" *");
    static final Pattern TOKEN = Pattern.compile("[a-z]+|[0-9]+|;");
    String source;
    int at, tokenAt;

    String token() {
        Matcher b = BLANKS.matcher(source).region(at, source.length());
        b.lookingAt();
        at = b.end();
        tokenAt = at;
        if (at == source.length()) return "";
        Matcher t = TOKEN.matcher(source).region(at, source.length());
        if (!t.lookingAt()) throw new Fault(at, 1);
        String s = t.group();
        if (Character.isDigit(s.charAt(0)) && s.length() > 2) throw new Fault(at, 1);
        at = t.end();
        return s;
    }

    int number(int a, int b) {
        String s = token();
        if (s.isEmpty() || !Character.isDigit(s.charAt(0))) throw new Fault(tokenAt, 2);
        int v = Integer.parseInt(s);
        if (out(v, a, b)) throw new Fault(tokenAt, 3);
        return v;
    }

    int parse(World d) {
        Map<String, Integer> kinds = new HashMap<>(Map.of("plain", 0, "tact", 1, "secret", 2, "joke", 3));
        Set<String> told = new HashSet<>();
        int lines = 0;
        for (String s = token(); !s.isEmpty(); s = token()) {
            int nameAt = tokenAt;
            if (kinds.containsKey(s)) {
                if (d.things.size() == 6) throw new Fault(nameAt, 5);
                int weight = number(1, 9);
                d.things.add(new int[] {kinds.get(s), weight, number(0, 1)});
            } else if (s.equals("wind")) {
                int k = number(0, 4);
                if (!told.add("wind" + k)) throw new Fault(tokenAt, 4);
                d.winds[k] = number(0, 8);
            } else if (s.equals("rate")) {
                if (!told.add(s)) throw new Fault(nameAt, 4);
                d.rate = number(1, 9);
            } else if (s.equals("start")) {
                if (!told.add(s)) throw new Fault(nameAt, 4);
                d.height = number(0, 60);
                d.place = number(0, 99);
            } else {
                throw new Fault(nameAt, 2);
            }
            if (!token().equals(";")) throw new Fault(tokenAt, 2);
            lines++;
        }
        return lines;
    }

    int text() {
        source = tape.toString();
        tape = new StringBuilder();
        at = 0;
        World d = new World();
        try {
            int lines = parse(d);
            fault = 0;
            w = d;
            images[0] = images[1] = null;
            return lines;
        } catch (Fault f) {
            fault = f.which;
            return -10 - f.place;
        }
    }

    int fault() { return fault; }

    int rule(int what) {
        int[] all = {w.things.size(), w.minute, w.height, w.place, w.lift(), w.saidBits(), w.rate, w.plan.size()};
        return out(what, 0, 7) ? BAD : all[what];
    }

    int thing(int i, int what) {
        if (noThing(i) || out(what, 0, 4)) return BAD;
        if (what < 3) return w.things.get(i)[what];
        return what == 3 ? (w.said.contains(i) ? 1 : 0) : 20 + w.liftOf(i);
    }

    int wind(int k) { return out(k, 0, 4) ? BAD : w.winds[k]; }

    int saying(int k, int what) {
        return out(k, 0, w.plan.size() - 1) || out(what, 0, 1) ? BAD : w.plan.get(k)[what];
    }

    int alter(int i, int what, int v) {
        if (noThing(i) || out(what, 0, 2)) return BAD;
        int[][] bounds = {{0, 3}, {1, 9}, {0, 1}};
        if (out(v, bounds[what][0], bounds[what][1])) return BAD;
        int was = w.things.get(i)[what];
        w.things.get(i)[what] = v;
        return was;
    }

    int blow(int k, int v) {
        if (out(k, 0, 4) || out(v, 0, 8)) return BAD;
        int was = w.winds[k];
        w.winds[k] = v;
        return was;
    }

    int rate(int v) {
        if (out(v, 1, 9)) return BAD;
        int was = w.rate;
        w.rate = v;
        return was;
    }

    int say(int i) {
        if (noThing(i)) return BAD;
        return w.said.add(i) ? w.lift() : STATE;
    }

    int take(int i) {
        if (noThing(i)) return BAD;
        return w.said.remove(i) ? w.lift() : STATE;
    }

    int plan(int minute, int i) {
        if (out(minute, 0, 99) || noThing(i)) return BAD;
        if (w.plan.size() == 8) return FULL;
        w.plan.add(new int[] {minute, i});
        return w.plan.size();
    }

    int cut(int n) {
        int had = w.plan.size();
        if (out(n, 0, had)) return BAD;
        w.plan = new ArrayList<>(w.plan.subList(0, n));
        return had;
    }

    int minutes(int n) {
        if (out(n, 0, 30)) return BAD;
        if (w.minute + n > 999) return FULL;
        for (int t = 0; t < n; t++) w.step();
        return w.height;
    }

    int runs(int n, int what) {
        if (out(n, 0, 60) || out(what, 0, 4)) return BAD;
        int[][] p = w.path(n);
        if (what < 2) return p[n][what];
        if (what == 2) return w.top(n);
        if (what == 3) {
            int downs = 0;
            for (int t = 1; t <= n; t++) if (p[t][0] == 0) downs++;
            return downs;
        }
        Set<Integer> s = new HashSet<>(w.said);
        for (int[] q : w.plan) if (q[0] >= w.minute && q[0] < w.minute + n) s.add(q[1]);
        int b = 0;
        for (int i : s) b |= 1 << i;
        return b;
    }

    int falls() { return w.falls(); }

    int church(int c) { return out(c, 0, 99) ? BAD : w.church(c); }

    /** Key of the least value of those at hand, the least key of several; value or key as what tells; NONE. */
    static int least(Map<Integer, Integer> values, int what) {
        int key = Integer.MAX_VALUE, value = Integer.MAX_VALUE;
        for (Map.Entry<Integer, Integer> e : values.entrySet()) {
            if (e.getValue() < value || e.getValue() == value && e.getKey() < key) {
                key = e.getKey();
                value = e.getValue();
            }
        }
        return values.isEmpty() ? NONE : what == 0 ? key : value;
    }

    int best(int what) {
        if (out(what, 0, 1)) return BAD;
        Map<Integer, Integer> m = new HashMap<>();
        for (int i = 0; i < w.things.size(); i++) {
            World d = w.copy();
            if (d.said.add(i) && d.falls() != NONE) m.put(i, d.falls());
        }
        return least(m, what);
    }

    int both(int c, int what) {
        if (out(c, 0, 99) || out(what, 0, 1)) return BAD;
        Map<Integer, Integer> m = new HashMap<>();
        for (int i = 0; i < w.things.size(); i++) {
            for (int j = 0; j < i; j++) {
                World d = w.copy();
                if (d.said.add(i) && d.said.add(j) && d.church(c) != NONE) m.put(10 * j + i, d.church(c));
            }
        }
        return least(m, what);
    }

    int when(int i, int c, int n, int what) {
        if (noThing(i) || out(c, 0, 99) || out(n, 0, 60) || out(what, 0, 1)) return BAD;
        Map<Integer, Integer> m = new HashMap<>();
        for (int d = 0; d <= 30; d++) {
            World v = w.copy();
            v.plan.add(new int[] {v.minute + d, i});
            m.put(d, Math.abs(v.path(n)[n][1] - c));
        }
        return least(m, what);
    }

    int steer(int k, int c, int n, int what) {
        if (out(k, 0, 4) || out(c, 0, 99) || out(n, 0, 60) || out(what, 0, 1)) return BAD;
        Map<Integer, Integer> m = new HashMap<>();
        for (int v = 0; v <= 8; v++) {
            World d = w.copy();
            d.winds[k] = v;
            m.put(v, Math.abs(d.path(n)[n][1] - c));
        }
        return least(m, what);
    }

    int hush(int n, int what) {
        if (out(n, 0, 60) || out(what, 0, 1)) return BAD;
        Map<Integer, Integer> m = new HashMap<>();
        for (int k = 0; k < w.plan.size(); k++) {
            World d = w.copy();
            d.plan.remove(k);
            if (d.top(n) < w.top(n)) m.put(k, d.top(n));
        }
        return least(m, what);
    }

    int swap(int what) {
        if (out(what, 0, 1)) return BAD;
        Map<Integer, Integer> m = new HashMap<>();
        for (int a = 0; a < w.plan.size(); a++) {
            for (int b = a + 1; b < w.plan.size(); b++) {
                World d = w.copy();
                d.plan.get(a)[1] = w.plan.get(b)[1];
                d.plan.get(b)[1] = w.plan.get(a)[1];
                int then = d.falls(), as = w.falls();
                if (then != NONE && (as == NONE || then < as)) m.put(10 * a + b, then);
            }
        }
        return least(m, what);
    }

    int need(int i, int n, int h) {
        if (noThing(i) || out(n, 0, 60) || out(h, 0, 60)) return BAD;
        for (int weight = 1; weight < 10; weight++) {
            World d = w.copy();
            d.things.get(i)[1] = weight;
            if (d.path(n)[n][0] >= h) return weight;
        }
        return NONE;
    }

    /** The sum over all ways to fail of odds times what a HEIGHT counts, told in lowest terms. */
    long expect(int v, int n, IntUnaryOperator counts, int what) {
        BigInteger sum = BigInteger.ZERO;
        int size = w.plan.size();
        for (int mask = 0; mask < 1 << size; mask++) {
            World d = w.copy();
            d.plan.clear();
            int fails = 0;
            for (int k = 0; k < size; k++) {
                if ((mask & 1 << k) != 0) fails++;
                else d.plan.add(w.plan.get(k));
            }
            BigInteger odds = BigInteger.valueOf(v).pow(fails).multiply(BigInteger.valueOf(10 - v).pow(size - fails));
            if (odds.signum() == 0) continue;
            sum = sum.add(odds.multiply(BigInteger.valueOf(counts.applyAsInt(d.path(n)[n][0]))));
        }
        BigInteger all = BigInteger.TEN.pow(size), g = sum.gcd(all);
        return (what == 0 ? sum : all).divide(g).longValueExact();
    }

    long luck(int v, int n, int h, int what) {
        if (out(v, 0, 10) || out(n, 0, 60) || out(h, 0, 60) || out(what, 0, 1)) return BAD;
        return expect(v, n, x -> x <= h ? 1 : 0, what);
    }

    long mean(int v, int n, int what) {
        if (out(v, 0, 10) || out(n, 0, 60) || out(what, 0, 1)) return BAD;
        return expect(v, n, x -> x, what);
    }

    int see(int n, int h) {
        if (out(n, 0, 30) || out(h, 0, 60)) return BAD;
        if (w.seen.size() == 6) return FULL;
        w.seen.add(new int[] {n, h});
        return w.seen.size();
    }

    int forget(int n) {
        int had = w.seen.size();
        if (out(n, 0, had)) return BAD;
        w.seen = new ArrayList<>(w.seen.subList(0, n));
        return had;
    }

    int fitting(int i, int what, int a, int b) {
        int bits = 0;
        for (int v = a; v <= b; v++) {
            World d = w.copy();
            d.things.get(i)[what] = v;
            if (d.asSeen()) bits |= 1 << v;
        }
        return bits;
    }

    int kinds(int i) { return noThing(i) ? BAD : fitting(i, 0, 0, 3); }

    int weights(int i) { return noThing(i) ? BAD : fitting(i, 1, 1, 9); }

    int saids(int what) {
        if (out(what, 0, 1)) return BAD;
        List<Integer> sets = new ArrayList<>();
        for (int mask = 0; mask < 1 << w.things.size(); mask++) {
            World d = w.copy();
            d.said.clear();
            for (int i = 0; i < 6; i++) if ((mask & 1 << i) != 0) d.said.add(i);
            if (d.asSeen()) sets.add(mask);
        }
        return what == 0 ? sets.size() : sets.isEmpty() ? NONE : sets.get(0);
    }

    int ask(int i, int what) {
        if (noThing(i) || out(what, 0, 1)) return BAD;
        int open = weights(i);
        Map<Integer, Integer> m = new HashMap<>();
        for (int t = 0; t <= 30; t++) {
            Map<Integer, Integer> groups = new HashMap<>();
            int worst = 0;
            for (int v = 1; v <= 9; v++) {
                if ((open & 1 << v) == 0) continue;
                World d = w.copy();
                d.things.get(i)[1] = v;
                worst = Math.max(worst, groups.merge(d.path(t)[t][0], 1, Integer::sum));
            }
            if (worst < Integer.bitCount(open)) m.put(t, worst);
        }
        return least(m, what);
    }

    int drift(int seed, int n, int what) {
        if (out(n, 1, 60) || out(what, 0, 1)) return BAD;
        if (w.things.isEmpty()) return STATE;
        World d = w.copy();
        long s = seed & 0xffffffffL;
        for (int t = 0; t < n; t++) {
            s = (s * 1103515245L + 12345L) % (1L << 32);
            int got = (int) (s / 65536 % 32768);
            int i = got % d.things.size();
            if (got / 8 % 2 == 1) d.said.add(i);
            else d.said.remove(i);
            d.step();
        }
        return what == 0 ? d.height : d.place;
    }

    int keep(int k) {
        if (out(k, 0, 1)) return BAD;
        int was = images[k] == null ? 0 : 1;
        images[k] = w.copy();
        return was;
    }

    int back(int k) {
        if (out(k, 0, 1)) return BAD;
        if (images[k] == null) return STATE;
        w = images[k].copy();
        return w.minute;
    }

    // ---- sheets: here the machine itself is asked

    int sheet(int k, int lane, int n) {
        if (out(k, 0, 3) || out(lane, 0, 2) || n > 40) return BAD;
        try {
            sheets[k] = lane == 0 ? new byte[n] : lane == 1 ? new short[n] : new int[n];
            return 1;
        } catch (NegativeArraySizeException e) {
            return -14;
        }
    }

    int lay(int k, int i, int v) {
        if (out(k, 0, 3)) return BAD;
        Object s = sheets[k];
        try {
            if (s instanceof byte[]) ((byte[]) s)[i] = (byte) v;
            else if (s instanceof short[]) ((short[]) s)[i] = (short) v;
            else ((int[]) s)[i] = v;
            return 1;
        } catch (NullPointerException e) {
            return -11;
        } catch (ArrayIndexOutOfBoundsException e) {
            return -12;
        }
    }

    static int cell(Object s, int lane, int i) {
        return lane == 0 ? ((byte[]) s)[i] : lane == 1 ? ((short[]) s)[i] : ((int[]) s)[i];
    }

    int read(int k, int lane, int f, int n) {
        if (out(k, 0, 3) || out(lane, 0, 2) || out(n, 0, 20)) return BAD;
        List<int[]> before = new ArrayList<>(w.plan);
        int found = 0, came = 0;
        for (; came < n; came++) {
            int minute, i;
            try {
                minute = cell(sheets[k], lane, f + 2 * came);
                i = cell(sheets[k], lane, f + 2 * came + 1);
            } catch (NullPointerException e) {
                found = 1;
                break;
            } catch (ArrayIndexOutOfBoundsException e) {
                found = 2;
                break;
            } catch (ClassCastException e) {
                found = 3;
                break;
            }
            if (plan(minute, i) < 0) {
                w.plan = before;
                return -20 - came;
            }
        }
        torn = found;
        return came;
    }

    int torn() { return torn; }

    int count(int what) {
        switch (what) {
            case 0: return w.seen.size();
            case 1: return (images[0] == null ? 0 : 1) + (images[1] == null ? 0 : 1);
            case 2: return tape.length();
            case 3: return sheets[0] == null ? NONE : java.lang.reflect.Array.getLength(sheets[0]);
            case 4:
            case 5:
                int sum = 0;
                for (int i = 0; i < w.things.size(); i++) {
                    if (w.things.get(i)[2] == what - 4 && !w.said.contains(i)) sum += w.things.get(i)[1];
                }
                return sum;
            default: return BAD;
        }
    }
}
