import java.util.Arrays;

/** A basket that rises by what two people leave unsaid; ../shared/DOC.md says what every call answers. */
public final class UnsaidBallast {
    public static final int BAD = -1, STATE = -2, FULL = -3, NONE = -4;

    private static final int MOST_THINGS = 6, MOST_SAYINGS = 8, MOST_SEEN = 6, MOST_BYTES = 160;
    private static final int WINDS = 5, IMAGES = 2, SHEETS = 4, LANES = 3, MOST_CELLS = 40, MOST_READ = 20;
    private static final int HIGHEST = 60, LAST_PLACE = 99, LAST_SAYING_MINUTE = 99, FIRST_MINUTE_TOO_LATE = 1000;
    private static final int SLOWEST = 1, FASTEST = 9, STRONGEST = 8, CALM = 4;
    private static final int LONGEST_STEP = 30, LONGEST_FORECAST = 60;

    private static final int PLAIN = 0, TACT = 1, SECRET = 2, JOKE = 3;
    private static final int KIND = 0, WEIGHT = 1, WHOSE = 2;
    private static final int LIGHTEST = 1, HEAVIEST = 9;

    /** Greater than any number of MINUTES that is looked at, so that "never" loses every comparison. */
    private static final int NEVER = 1000000;
    /** No MINUTE is ever this one: a SAYING that is moved there is left out. */
    private static final int NO_MINUTE = -1;

    private static final int NULL_FAULT = 1, INDEX_FAULT = 2, CAST_FAULT = 3, SIZE_FAULT = 4;
    private static final int FAULT_BASE = -10, REFUSED_BASE = -20;

    private final Flight now = new Flight();
    /** What might be is tried here, so that no call makes a Flight of its own. */
    private final Flight trial = new Flight();
    private final Flight[] images = new Flight[IMAGES];
    private final boolean[] kept = new boolean[IMAGES];
    private final Reader tape = new Reader();
    private final Sheet[] sheets = new Sheet[SHEETS];
    private final Choice choice = new Choice();
    private final int[][] heightByWeight = new int[HEAVIEST + 1][LONGEST_STEP + 1];
    private int torn;

    public UnsaidBallast() {
        for (int k = 0; k < IMAGES; k++) {
            images[k] = new Flight();
        }
        for (int k = 0; k < SHEETS; k++) {
            sheets[k] = new Sheet();
        }
    }

    // ---- the text

    public int feed(int c) {
        if (!isIn(c, 0, 127)) {
            return BAD;
        }
        return tape.append(c);
    }

    public int end(int n) {
        return tape.keepFirst(n);
    }

    public int text() {
        int lines = tape.tell(trial);
        if (lines >= 0) {
            now.copyFrom(trial);
            forgetImages();
        }
        return lines;
    }

    public int fault() {
        return tape.fault;
    }

    public int rule(int what) {
        switch (what) {
            case 0:
                return now.things;
            case 1:
                return now.minute;
            case 2:
                return now.height;
            case 3:
                return now.place;
            case 4:
                return now.lift();
            case 5:
                return now.said;
            case 6:
                return now.rate;
            case 7:
                return now.sayings.size;
            default:
                return BAD;
        }
    }

    public int thing(int i, int what) {
        if (!now.hasThing(i)) {
            return BAD;
        }
        switch (what) {
            case 0:
                return now.kind[i];
            case 1:
                return now.weight[i];
            case 2:
                return now.whose[i];
            case 3:
                return now.isSaid(i) ? 1 : 0;
            case 4:
                return 20 + now.liftOf(i);
            default:
                return BAD;
        }
    }

    public int wind(int k) {
        return isWind(k) ? now.strength[k] : BAD;
    }

    public int saying(int k, int what) {
        if (!isIn(k, 0, now.sayings.size - 1) || !isIn(what, 0, 1)) {
            return BAD;
        }
        return what == 0 ? now.sayings.first[k] : now.sayings.second[k];
    }

    // ---- what is changed

    public int alter(int i, int what, int v) {
        if (!now.hasThing(i) || !isIn(what, KIND, WHOSE) || !isIn(v, leastOf(what), greatestOf(what))) {
            return BAD;
        }
        int[] row = now.rowOf(what);
        int was = row[i];
        row[i] = v;
        return was;
    }

    public int blow(int k, int v) {
        if (!isWind(k) || !isIn(v, 0, STRONGEST)) {
            return BAD;
        }
        int was = now.strength[k];
        now.strength[k] = v;
        return was;
    }

    public int rate(int v) {
        if (!isIn(v, SLOWEST, FASTEST)) {
            return BAD;
        }
        int was = now.rate;
        now.rate = v;
        return was;
    }

    public int say(int i) {
        if (!now.hasThing(i)) {
            return BAD;
        }
        if (now.isSaid(i)) {
            return STATE;
        }
        now.setSaid(i, true);
        return now.lift();
    }

    public int take(int i) {
        if (!now.hasThing(i)) {
            return BAD;
        }
        if (!now.isSaid(i)) {
            return STATE;
        }
        now.setSaid(i, false);
        return now.lift();
    }

    public int plan(int minute, int i) {
        return now.addSaying(minute, i);
    }

    public int cut(int n) {
        return now.sayings.keepFirst(n);
    }

    // ---- minutes

    public int minutes(int n) {
        if (!isIn(n, 0, LONGEST_STEP)) {
            return BAD;
        }
        if (now.minute + n >= FIRST_MINUTE_TOO_LATE) {
            return FULL;
        }
        now.passAll(n);
        return now.height;
    }

    public int runs(int n, int what) {
        if (!isForecast(n)) {
            return BAD;
        }
        restartTrial();
        switch (what) {
            case 0:
                trial.passAll(n);
                return trial.height;
            case 1:
                trial.passAll(n);
                return trial.place;
            case 2:
                return trial.greatestHeight(n);
            case 3:
                return trial.timesDown(n);
            case 4:
                trial.passAll(n);
                return trial.said;
            default:
                return BAD;
        }
    }

    public int falls() {
        restartTrial();
        return orNone(trial.firstDown());
    }

    public int church(int c) {
        if (!isPlace(c)) {
            return BAD;
        }
        restartTrial();
        return orNone(trial.firstDownAt(c));
    }

    // ---- what is best

    public int best(int what) {
        if (!isIn(what, 0, 1)) {
            return BAD;
        }
        choice.beginBelow(NEVER);
        for (int i = 0; i < now.things; i++) {
            if (!now.isSaid(i)) {
                restartTrial();
                trial.setSaid(i, true);
                choice.offer(i, trial.firstDown());
            }
        }
        return choice.answer(what);
    }

    public int both(int c, int what) {
        if (!isPlace(c) || !isIn(what, 0, 1)) {
            return BAD;
        }
        choice.beginBelow(NEVER);
        for (int i = 0; i < now.things; i++) {
            for (int j = i + 1; j < now.things; j++) {
                if (!now.isSaid(i) && !now.isSaid(j)) {
                    restartTrial();
                    trial.setSaid(i, true);
                    trial.setSaid(j, true);
                    choice.offer(10 * i + j, trial.firstDownAt(c));
                }
            }
        }
        return choice.answer(what);
    }

    public int when(int i, int c, int n, int what) {
        if (!now.hasThing(i) || !isPlace(c) || !isForecast(n) || !isIn(what, 0, 1)) {
            return BAD;
        }
        choice.beginBelow(NEVER);
        for (int more = 0; more <= LONGEST_STEP; more++) {
            restartTrial();
            trial.passAll(Math.min(more, n));
            if (more < n) {
                trial.setSaid(i, true);
                trial.passAll(n - more);
            }
            choice.offer(more, trial.offFrom(c));
        }
        return choice.answer(what);
    }

    public int steer(int k, int c, int n, int what) {
        if (!isWind(k) || !isPlace(c) || !isForecast(n) || !isIn(what, 0, 1)) {
            return BAD;
        }
        choice.beginBelow(NEVER);
        for (int v = 0; v <= STRONGEST; v++) {
            restartTrial();
            trial.strength[k] = v;
            trial.passAll(n);
            choice.offer(v, trial.offFrom(c));
        }
        return choice.answer(what);
    }

    public int hush(int n, int what) {
        if (!isForecast(n) || !isIn(what, 0, 1)) {
            return BAD;
        }
        restartTrial();
        choice.beginBelow(trial.greatestHeight(n));
        for (int k = 0; k < now.sayings.size; k++) {
            restartTrial();
            trial.sayings.first[k] = NO_MINUTE;
            choice.offer(k, trial.greatestHeight(n));
        }
        return choice.answer(what);
    }

    public int swap(int what) {
        if (!isIn(what, 0, 1)) {
            return BAD;
        }
        restartTrial();
        choice.beginBelow(trial.firstDown());
        for (int a = 0; a < now.sayings.size; a++) {
            for (int b = a + 1; b < now.sayings.size; b++) {
                restartTrial();
                trial.sayings.second[a] = now.sayings.second[b];
                trial.sayings.second[b] = now.sayings.second[a];
                choice.offer(10 * a + b, trial.firstDown());
            }
        }
        return choice.answer(what);
    }

    public int need(int i, int n, int h) {
        if (!now.hasThing(i) || !isForecast(n) || !isHeight(h)) {
            return BAD;
        }
        for (int w = LIGHTEST; w <= HEAVIEST; w++) {
            restartTrial();
            trial.weight[i] = w;
            trial.passAll(n);
            if (trial.height >= h) {
                return w;
            }
        }
        return NONE;
    }

    // ---- sayings that fail

    public long luck(int v, int n, int h, int what) {
        if (!isIn(v, 0, 10) || !isForecast(n) || !isHeight(h) || !isIn(what, 0, 1)) {
            return BAD;
        }
        long sum = 0;
        for (int failed = 0; failed < 1 << now.sayings.size; failed++) {
            long odds = oddsThatFail(failed, v);
            if (odds > 0) {
                tryWithout(failed, n);
                sum += trial.height <= h ? odds : 0;
            }
        }
        return inLowestTerms(sum, allOdds(), what);
    }

    public long mean(int v, int n, int what) {
        if (!isIn(v, 0, 10) || !isForecast(n) || !isIn(what, 0, 1)) {
            return BAD;
        }
        long sum = 0;
        for (int failed = 0; failed < 1 << now.sayings.size; failed++) {
            long odds = oddsThatFail(failed, v);
            if (odds > 0) {
                tryWithout(failed, n);
                sum += odds * trial.height;
            }
        }
        return inLowestTerms(sum, allOdds(), what);
    }

    /** The odds, out of allOdds(), that just these SAYINGS (bits) fail. */
    private long oddsThatFail(int failed, int v) {
        long odds = 1;
        for (int k = 0; k < now.sayings.size; k++) {
            odds *= (failed >> k & 1) == 1 ? v : 10 - v;
        }
        return odds;
    }

    private long allOdds() {
        long all = 1;
        for (int k = 0; k < now.sayings.size; k++) {
            all *= 10;
        }
        return all;
    }

    private void tryWithout(int failed, int n) {
        restartTrial();
        for (int k = 0; k < now.sayings.size; k++) {
            if ((failed >> k & 1) == 1) {
                trial.sayings.first[k] = NO_MINUTE;
            }
        }
        trial.passAll(n);
    }

    // ---- from heights

    public int see(int n, int h) {
        if (!isIn(n, 0, LONGEST_STEP) || !isHeight(h)) {
            return BAD;
        }
        return now.seen.add(n, h);
    }

    public int forget(int n) {
        return now.seen.keepFirst(n);
    }

    public int kinds(int i) {
        return now.hasThing(i) ? valuesAsSeen(i, KIND) : BAD;
    }

    public int weights(int i) {
        return now.hasThing(i) ? valuesAsSeen(i, WEIGHT) : BAD;
    }

    public int saids(int what) {
        if (!isIn(what, 0, 1)) {
            return BAD;
        }
        int sets = 0;
        int least = NONE;
        for (int set = 0; set < 1 << now.things; set++) {
            restartTrial();
            trial.said = set;
            if (trial.goesAsSeen()) {
                least = sets == 0 ? set : least;
                sets++;
            }
        }
        return what == 0 ? sets : least;
    }

    public int ask(int i, int what) {
        if (!now.hasThing(i) || !isIn(what, 0, 1)) {
            return BAD;
        }
        int open = valuesAsSeen(i, WEIGHT);
        foreseeHeightsByWeight(i);
        choice.beginBelow(Integer.bitCount(open));
        for (int t = 0; t <= LONGEST_STEP; t++) {
            choice.offer(t, mostLeftByLooking(open, t));
        }
        return choice.answer(what);
    }

    /** The values (bits) of a THING's KIND or WEIGHT by which all is as SEEN. */
    private int valuesAsSeen(int i, int what) {
        int bits = 0;
        for (int v = leastOf(what); v <= greatestOf(what); v++) {
            restartTrial();
            trial.rowOf(what)[i] = v;
            if (trial.goesAsSeen()) {
                bits |= 1 << v;
            }
        }
        return bits;
    }

    private void foreseeHeightsByWeight(int i) {
        for (int w = LIGHTEST; w <= HEAVIEST; w++) {
            restartTrial();
            trial.weight[i] = w;
            for (int t = 0; t <= LONGEST_STEP; t++) {
                heightByWeight[w][t] = trial.height;
                trial.pass();
            }
        }
    }

    private int mostLeftByLooking(int open, int t) {
        int most = 0;
        for (int w = LIGHTEST; w <= HEAVIEST; w++) {
            if ((open >> w & 1) == 1) {
                most = Math.max(most, alikeBehind(w, open, t));
            }
        }
        return most;
    }

    /** How many of the open WEIGHTS are as high behind t MINUTES as w is. */
    private int alikeBehind(int w, int open, int t) {
        int alike = 0;
        for (int other = LIGHTEST; other <= HEAVIEST; other++) {
            if ((open >> other & 1) == 1 && heightByWeight[other][t] == heightByWeight[w][t]) {
                alike++;
            }
        }
        return alike;
    }

    // ---- by a seed

    public int drift(int seed, int n, int what) {
        if (!isIn(n, 1, LONGEST_FORECAST) || !isIn(what, 0, 1)) {
            return BAD;
        }
        if (now.things <= 0) {
            return STATE;
        }
        restartTrial();
        int s = seed;
        for (int t = 0; t < n; t++) {
            s = s * 1103515245 + 12345;
            int got = s >> 16 & 32767;
            trial.setSaid(got % now.things, got / 8 % 2 == 1);
            trial.pass();
        }
        return what == 0 ? trial.height : trial.place;
    }

    // ---- images, sheets

    public int keep(int k) {
        if (!isIn(k, 0, IMAGES - 1)) {
            return BAD;
        }
        int was = kept[k] ? 1 : 0;
        images[k].copyFrom(now);
        kept[k] = true;
        return was;
    }

    public int back(int k) {
        if (!isIn(k, 0, IMAGES - 1)) {
            return BAD;
        }
        if (!kept[k]) {
            return STATE;
        }
        now.copyFrom(images[k]);
        return now.minute;
    }

    public int sheet(int k, int lane, int n) {
        if (!isSheet(k) || !isLane(lane) || n > MOST_CELLS) {
            return BAD;
        }
        if (n < 0) {
            return FAULT_BASE - SIZE_FAULT;
        }
        sheets[k].renew(lane, n);
        return 1;
    }

    public int lay(int k, int i, int v) {
        if (!isSheet(k)) {
            return BAD;
        }
        Sheet s = sheets[k];
        int found = s.faultAs(s.lane, i);
        if (found != 0) {
            return FAULT_BASE - found;
        }
        s.put(i, v);
        return 1;
    }

    public int read(int k, int lane, int f, int n) {
        if (!isSheet(k) || !isLane(lane) || !isIn(n, 0, MOST_READ)) {
            return BAD;
        }
        Sheet s = sheets[k];
        int before = now.sayings.size;
        int came = 0;
        int found = 0;
        for (int i = 0; i < n && found == 0; i++) {
            int cell = f + 2 * i;
            found = s.faultOfPair(lane, cell);
            if (found == 0) {
                if (now.addSaying(s.cells[cell], s.cells[cell + 1]) < 0) {
                    now.sayings.keepFirst(before);
                    return REFUSED_BASE - i;
                }
                came++;
            }
        }
        torn = found;
        return came;
    }

    public int torn() {
        return torn;
    }

    public int count(int what) {
        switch (what) {
            case 0:
                return now.seen.size;
            case 1:
                return keptImages();
            case 2:
                return tape.length;
            case 3:
                return sheets[0].isNothing() ? NONE : sheets[0].size;
            case 4:
                return now.unsaidWeight(0);
            case 5:
                return now.unsaidWeight(1);
            default:
                return BAD;
        }
    }

    // ---- what the calls share

    private void forgetImages() {
        for (int k = 0; k < IMAGES; k++) {
            kept[k] = false;
        }
    }

    private int keptImages() {
        int sum = 0;
        for (int k = 0; k < IMAGES; k++) {
            sum += kept[k] ? 1 : 0;
        }
        return sum;
    }

    private void restartTrial() {
        trial.copyFrom(now);
    }

    private static boolean isIn(int v, int least, int greatest) {
        return v >= least && v <= greatest;
    }

    private static boolean isPlace(int c) {
        return isIn(c, 0, LAST_PLACE);
    }

    private static boolean isHeight(int h) {
        return isIn(h, 0, HIGHEST);
    }

    private static boolean isForecast(int n) {
        return isIn(n, 0, LONGEST_FORECAST);
    }

    private static boolean isWind(int k) {
        return isIn(k, 0, WINDS - 1);
    }

    private static boolean isSheet(int k) {
        return isIn(k, 0, SHEETS - 1);
    }

    private static boolean isLane(int lane) {
        return isIn(lane, 0, LANES - 1);
    }

    private static int leastOf(int what) {
        return what == WEIGHT ? LIGHTEST : 0;
    }

    private static int greatestOf(int what) {
        return what == KIND ? JOKE : what == WEIGHT ? HEAVIEST : 1;
    }

    private static int orNone(int minutes) {
        return minutes == NEVER ? NONE : minutes;
    }

    private static int bounded(int v, int least, int greatest) {
        return Math.max(least, Math.min(greatest, v));
    }

    private static long inLowestTerms(long above, long below, int what) {
        long part = what == 0 ? above : below;
        long common = commonDivisor(above, below);
        return common > 0 ? part / common : part;
    }

    private static long commonDivisor(long a, long b) {
        // Two steps at least halve the rest, so a pair of longs is at its end long before the bound.
        for (int step = 0; step < 200 && b != 0; step++) {
            long rest = a % b;
            a = b;
            b = rest;
        }
        return a;
    }

    /** The key that was offered with the least value, of several the first. */
    private static final class Choice {
        private int key;
        private int value;
        private boolean made;

        void beginBelow(int bound) {
            value = bound;
            made = false;
        }

        void offer(int k, int v) {
            if (v < value) {
                key = k;
                value = v;
                made = true;
            }
        }

        int answer(int what) {
            if (!made) {
                return NONE;
            }
            return what == 0 ? key : value;
        }
    }

    /** A short row of pairs: SAYINGS (MINUTE, THING), or what is SEEN (MINUTES, HEIGHT). */
    private static final class Pairs {
        final int[] first;
        final int[] second;
        int size;

        Pairs(int most) {
            int room = Math.max(0, most);
            first = new int[room];
            second = new int[room];
        }

        int add(int a, int b) {
            if (size >= first.length) {
                return FULL;
            }
            first[size] = a;
            second[size] = b;
            size++;
            return size;
        }

        int keepFirst(int n) {
            if (!isIn(n, 0, size)) {
                return BAD;
            }
            int had = size;
            size = n;
            return had;
        }

        void copyFrom(Pairs other) {
            size = other.size;
            for (int k = 0; k < size; k++) {
                first[k] = other.first[k];
                second[k] = other.second[k];
            }
        }
    }

    /** All that an IMAGE holds, and what a MINUTE does to it. */
    private static final class Flight {
        final int[] kind = new int[MOST_THINGS];
        final int[] weight = new int[MOST_THINGS];
        final int[] whose = new int[MOST_THINGS];
        final int[] strength = new int[WINDS];
        final Pairs sayings = new Pairs(MOST_SAYINGS);
        final Pairs seen = new Pairs(MOST_SEEN);
        int things;
        int said;
        int height;
        int place;
        int rate;
        int minute;

        Flight() {
            rate = SLOWEST;
            Arrays.fill(strength, CALM);
        }

        void clear() {
            things = 0;
            said = 0;
            height = 0;
            place = 0;
            rate = SLOWEST;
            minute = 0;
            Arrays.fill(strength, CALM);
            sayings.size = 0;
            seen.size = 0;
        }

        void copyFrom(Flight other) {
            things = other.things;
            for (int i = 0; i < things; i++) {
                kind[i] = other.kind[i];
                weight[i] = other.weight[i];
                whose[i] = other.whose[i];
            }
            for (int k = 0; k < WINDS; k++) {
                strength[k] = other.strength[k];
            }
            sayings.copyFrom(other.sayings);
            seen.copyFrom(other.seen);
            said = other.said;
            height = other.height;
            place = other.place;
            rate = other.rate;
            minute = other.minute;
        }

        boolean hasThing(int i) {
            return isIn(i, 0, things - 1);
        }

        boolean addThing(int k, int w, int who) {
            if (things >= MOST_THINGS) {
                return false;
            }
            kind[things] = k;
            weight[things] = w;
            whose[things] = who;
            things++;
            return true;
        }

        int[] rowOf(int what) {
            return what == KIND ? kind : what == WEIGHT ? weight : whose;
        }

        boolean isSaid(int i) {
            return (said >> i & 1) == 1;
        }

        void setSaid(int i, boolean to) {
            said = to ? said | 1 << i : said & ~(1 << i);
        }

        int addSaying(int m, int i) {
            if (!isIn(m, 0, LAST_SAYING_MINUTE) || !hasThing(i)) {
                return BAD;
            }
            return sayings.add(m, i);
        }

        int liftOf(int i) {
            int w = weight[i];
            if (!isSaid(i)) {
                return kind[i] == SECRET ? 2 * w : w;
            }
            switch (kind[i]) {
                case TACT:
                    return w / 2;
                case JOKE:
                    return -(w / 2);
                default:
                    return 0;
            }
        }

        int lift() {
            int sum = 0;
            for (int i = 0; i < things; i++) {
                sum += liftOf(i);
            }
            return bounded(sum, 0, HIGHEST);
        }

        int unsaidWeight(int who) {
            int sum = 0;
            for (int i = 0; i < things; i++) {
                if (whose[i] == who && !isSaid(i)) {
                    sum += weight[i];
                }
            }
            return sum;
        }

        int offFrom(int c) {
            return Math.abs(place - c);
        }

        void pass() {
            for (int k = 0; k < sayings.size; k++) {
                if (sayings.first[k] == minute) {
                    setSaid(sayings.second[k], true);
                }
            }
            height += bounded(lift() - height, -rate, rate);
            place = bounded(place + strength[windAloft()] - CALM, 0, LAST_PLACE);
            minute++;
        }

        int windAloft() {
            return bounded(height / 10, 0, WINDS - 1);
        }

        void passAll(int n) {
            for (int t = 0; t < n; t++) {
                pass();
            }
        }

        int greatestHeight(int n) {
            int greatest = height;
            for (int t = 0; t < n; t++) {
                pass();
                greatest = Math.max(greatest, height);
            }
            return greatest;
        }

        int timesDown(int n) {
            int times = 0;
            for (int t = 0; t < n; t++) {
                pass();
                times += height == 0 ? 1 : 0;
            }
            return times;
        }

        int firstDown() {
            for (int t = 1; t <= LONGEST_FORECAST; t++) {
                pass();
                if (height == 0) {
                    return t;
                }
            }
            return NEVER;
        }

        int firstDownAt(int c) {
            for (int t = 0; t <= LONGEST_FORECAST; t++) {
                if (height == 0 && place == c) {
                    return t;
                }
                pass();
            }
            return NEVER;
        }

        boolean goesAsSeen() {
            for (int t = 0; t <= LONGEST_STEP; t++) {
                if (!isAsSeenBehind(t)) {
                    return false;
                }
                pass();
            }
            return true;
        }

        boolean isAsSeenBehind(int t) {
            for (int k = 0; k < seen.size; k++) {
                if (seen.first[k] == t && seen.second[k] != height) {
                    return false;
                }
            }
            return true;
        }
    }

    /** THE TAPE, and the reading of it: what answers a boolean answers false when it met a FAULT. */
    private static final class Reader {
        private static final int NO_TOKEN = 1, MISPLACED = 2, OUT_OF_BOUNDS = 3, TOLD_TWICE = 4, ONE_THING_TOO_MANY = 5;
        private static final int END = 0, NAME = 1, NUMBER = 2, SEMICOLON = 3, BLANK = 4, OTHER = 5;
        private static final int WIND_LINE = 4, RATE_LINE = 5, START_LINE = 6, LINE_KINDS = 7;

        private final int[] bytes = new int[MOST_BYTES];
        /** Of which sort each byte is, told as it comes, so that reading goes no deeper than it must. */
        private final int[] sorts = new int[MOST_BYTES];
        int length;
        int fault;
        private int faultAt;
        private int next;
        private int token;
        private int tokenAt;
        private int value;
        private int windsTold;
        private boolean rateTold;
        private boolean startTold;

        int append(int c) {
            if (length >= MOST_BYTES) {
                return FULL;
            }
            bytes[length] = c;
            sorts[length] = sortOf(c);
            length++;
            return length;
        }

        int keepFirst(int n) {
            if (!isIn(n, 0, length)) {
                return BAD;
            }
            int had = length;
            length = n;
            return had;
        }

        /** Empties THE TAPE into a Flight: how many lines, or the answer that tells the FAULT's place. */
        int tell(Flight draft) {
            draft.clear();
            begin();
            int lines = 0;
            boolean going = nextToken();
            while (going && token != END && lines < MOST_BYTES) {
                going = readLine(draft) && nextToken();
                lines++;
            }
            length = 0;
            return going ? lines : FAULT_BASE - faultAt;
        }

        private void begin() {
            fault = 0;
            faultAt = 0;
            next = 0;
            windsTold = 0;
            rateTold = false;
            startTold = false;
        }

        private boolean failAt(int where, int which) {
            faultAt = where;
            fault = which;
            return false;
        }

        private boolean nextToken() {
            next = endOfRun(BLANK, next);
            tokenAt = next;
            token = next < length ? sorts[next] : END;
            switch (token) {
                case NAME:
                    next = endOfRun(NAME, next);
                    return true;
                case NUMBER:
                    next = endOfRun(NUMBER, next);
                    value = valueOf(tokenAt, next);
                    return next - tokenAt <= 2 || failAt(tokenAt, NO_TOKEN);
                case SEMICOLON:
                    next++;
                    return true;
                case END:
                    return true;
                default:
                    return failAt(tokenAt, NO_TOKEN);
            }
        }

        private int valueOf(int from, int to) {
            int v = 0;
            for (int p = from; p < to; p++) {
                v = 10 * v + bytes[p] - '0';
            }
            return v;
        }

        private int endOfRun(int sort, int from) {
            int p = from;
            while (p < length && sorts[p] == sort) {
                p++;
            }
            return p;
        }

        private static int sortOf(int c) {
            if (isIn(c, 'a', 'z')) {
                return NAME;
            }
            if (isIn(c, '0', '9')) {
                return NUMBER;
            }
            return c == ';' ? SEMICOLON : c == ' ' ? BLANK : OTHER;
        }

        private boolean readLine(Flight draft) {
            int line = token == NAME ? lineOfName() : LINE_KINDS;
            switch (line) {
                case PLAIN:
                case TACT:
                case SECRET:
                case JOKE:
                    return readThing(draft, line);
                case WIND_LINE:
                    return readWind(draft);
                case RATE_LINE:
                    return readRate(draft);
                case START_LINE:
                    return readStart(draft);
                default:
                    return failAt(tokenAt, MISPLACED);
            }
        }

        private int lineOfName() {
            for (int line = 0; line < LINE_KINDS; line++) {
                if (nameIs(wordOf(line))) {
                    return line;
                }
            }
            return LINE_KINDS;
        }

        private static String wordOf(int line) {
            switch (line) {
                case PLAIN:
                    return "plain";
                case TACT:
                    return "tact";
                case SECRET:
                    return "secret";
                case JOKE:
                    return "joke";
                case WIND_LINE:
                    return "wind";
                case RATE_LINE:
                    return "rate";
                default:
                    return "start";
            }
        }

        private boolean nameIs(String word) {
            if (next - tokenAt != word.length()) {
                return false;
            }
            for (int p = 0; p < word.length(); p++) {
                if (bytes[tokenAt + p] != word.charAt(p)) {
                    return false;
                }
            }
            return true;
        }

        private boolean readThing(Flight draft, int kind) {
            if (draft.things >= MOST_THINGS) {
                return failAt(tokenAt, ONE_THING_TOO_MANY);
            }
            if (!readNumber(leastOf(WEIGHT), greatestOf(WEIGHT))) {
                return false;
            }
            int weight = value;
            return readNumber(leastOf(WHOSE), greatestOf(WHOSE))
                && draft.addThing(kind, weight, value)
                && readSemicolon();
        }

        private boolean readWind(Flight draft) {
            if (!readNumber(0, WINDS - 1)) {
                return false;
            }
            int k = value;
            if ((windsTold >> k & 1) == 1) {
                return failAt(tokenAt, TOLD_TWICE);
            }
            windsTold |= 1 << k;
            if (!readNumber(0, STRONGEST)) {
                return false;
            }
            draft.strength[k] = value;
            return readSemicolon();
        }

        private boolean readRate(Flight draft) {
            if (rateTold) {
                return failAt(tokenAt, TOLD_TWICE);
            }
            rateTold = true;
            if (!readNumber(SLOWEST, FASTEST)) {
                return false;
            }
            draft.rate = value;
            return readSemicolon();
        }

        private boolean readStart(Flight draft) {
            if (startTold) {
                return failAt(tokenAt, TOLD_TWICE);
            }
            startTold = true;
            if (!readNumber(0, HIGHEST)) {
                return false;
            }
            draft.height = value;
            if (!readNumber(0, LAST_PLACE)) {
                return false;
            }
            draft.place = value;
            return readSemicolon();
        }

        private boolean readNumber(int least, int greatest) {
            if (!nextToken()) {
                return false;
            }
            if (token != NUMBER) {
                return failAt(tokenAt, MISPLACED);
            }
            return isIn(value, least, greatest) || failAt(tokenAt, OUT_OF_BOUNDS);
        }

        private boolean readSemicolon() {
            if (!nextToken()) {
                return false;
            }
            return token == SEMICOLON || failAt(tokenAt, MISPLACED);
        }
    }

    /** A row of CELLS of one lane, or nothing; the row is made once, for a new SHEET takes the old one's room. */
    private static final class Sheet {
        private static final int BYTES = 0, SHORTS = 1, NOTHING = -1;

        final int[] cells = new int[MOST_CELLS];
        int lane = NOTHING;
        int size;

        boolean isNothing() {
            return lane == NOTHING;
        }

        void renew(int newLane, int n) {
            lane = newLane;
            size = n;
            Arrays.fill(cells, 0);
        }

        /** What the machine finds when CELL i is asked of this SHEET taken as of a lane; 0. */
        int faultAs(int asLane, int i) {
            if (isNothing()) {
                return NULL_FAULT;
            }
            if (lane != asLane) {
                return CAST_FAULT;
            }
            return isIn(i, 0, size - 1) ? 0 : INDEX_FAULT;
        }

        int faultOfPair(int asLane, int i) {
            int found = faultAs(asLane, i);
            return found != 0 ? found : faultAs(asLane, i + 1);
        }

        void put(int i, int v) {
            cells[i] = lane == BYTES ? (byte) v : lane == SHORTS ? (short) v : v;
        }
    }
}
