import java.util.ArrayList;
import java.util.List;
import java.util.function.Supplier;

/**
 * Each sentence of the document that names a boundary case, by itself: the last value that is taken and the first
 * that is not, on both sides; nothing there yet, and full; what is refused, and that it changed nothing.
 */
public final class BoundaryTest {
    private static final int BAD = -1, STATE = -2, FULL = -3, NONE = -4;
    private static final int MIN = Integer.MIN_VALUE, MAX = Integer.MAX_VALUE;
    private static int wrong = 0, right = 0;
    private static String sentence = "";

    private interface Call {
        long on(UnsaidBallast x);
    }

    private interface CallOf {
        long on(UnsaidBallast x, int v);
    }

    private static void due(String what, long got, long want) {
        if (got == want) {
            right++;
            return;
        }
        wrong++;
        System.out.println(sentence + ": " + what + " answered " + got + ", due is " + want);
    }

    // ---- states to begin with

    private static UnsaidBallast fed(UnsaidBallast x, String s) {
        for (int p = 0; p < s.length(); p++) x.feed(s.charAt(p));
        return x;
    }

    private static UnsaidBallast told(String s) {
        UnsaidBallast x = fed(new UnsaidBallast(), s);
        if (x.text() < 0) due("text() of a sound text: " + s, BAD, 0);
        return x;
    }

    /** Two THINGS; it hangs still at 7 yards and 50. */
    private static UnsaidBallast still() {
        return told("plain 4 0;tact 3 1;rate 9;start 7 50;");
    }

    /** Six THINGS of each KIND, on the ground. */
    private static UnsaidBallast six() {
        return told("plain1 0;tact2 1;secret3 0;joke4 1;plain5 0;tact6 1;");
    }

    /** Something of everything, and nothing full. */
    private static UnsaidBallast some() {
        UnsaidBallast x = told("plain6 0;tact5 1;secret4 0;joke7 1;wind0 5;wind1 2;rate2;start9 20;");
        x.say(1);
        x.plan(1, 2);
        x.see(1, 11);
        x.keep(0);
        x.minutes(2);
        x.plan(4, 0);
        x.plan(9, 3);
        x.forget(0);
        x.see(2, x.runs(2, 0));
        x.see(5, x.runs(5, 0));
        x.keep(1);
        x.blow(2, 7);
        x.alter(0, 2, 1);
        x.sheet(0, 0, 7);
        int[] cells = {3, 1, 4, 0, 5, 2, 6};
        for (int i = 0; i < 7; i++) x.lay(0, i, cells[i]);
        x.sheet(1, 1, 40);
        x.lay(1, 38, 98);
        x.lay(1, 39, 3);
        x.sheet(2, 2, 0);
        x.read(0, 1, 0, 1);
        fed(x, "rate 0;").text();
        return fed(x, "tact 9 1; r");
    }

    /** As much of everything as there may be. */
    private static UnsaidBallast full() {
        UnsaidBallast x = six();
        for (int n = 0; n < 33; n++) x.minutes(30);
        x.minutes(9);
        for (int k = 0; k < 8; k++) x.plan(90 + k, k % 6);
        for (int n = 0; n < 6; n++) x.see(n, x.runs(n, 0));
        x.keep(0);
        x.keep(1);
        for (int k = 0; k < 4; k++) x.sheet(k, k % 3, 40);
        return fed(x, "rate 3;" + " ".repeat(144) + "wind 1 2;");
    }

    private static UnsaidBallast fresh() {
        return new UnsaidBallast();
    }

    // ---- all that can be seen of an object

    private static final int PARTS = 7;

    private static void lookAtNow(UnsaidBallast x, List<Long> all) {
        for (int what = 0; what < 8; what++) all.add((long) x.rule(what));
        for (int i = 0; i < 6; i++) {
            for (int what = 0; what < 5; what++) all.add((long) x.thing(i, what));
        }
        for (int k = 0; k < 5; k++) all.add((long) x.wind(k));
        for (int k = 0; k < 8; k++) {
            for (int what = 0; what < 2; what++) all.add((long) x.saying(k, what));
        }
        for (int what = 0; what < 6; what++) all.add((long) x.count(what));
        all.add((long) x.fault());
        all.add((long) x.torn());
    }

    private static void lookAtSeen(UnsaidBallast x, List<Long> all) {
        for (int n = x.count(0); n >= 0; n--) {
            all.add((long) x.forget(n));
            for (int i = 0; i < x.rule(0); i++) {
                all.add((long) x.weights(i));
                all.add((long) x.kinds(i));
            }
            all.add((long) x.saids(0));
            all.add((long) x.saids(1));
        }
    }

    private static void lookAtSheet(UnsaidBallast x, int k, List<Long> all) {
        for (int lane = 0; lane < 3; lane++) {
            for (int f = 0; f < 42; f += 2) {
                x.cut(0);
                long came = x.read(k, lane, f, 1);
                all.add(came);
                all.add((long) x.torn());
                all.add((long) x.saying(0, 0));
                all.add((long) x.saying(0, 1));
                if (came == 0) break;
            }
        }
    }

    /** A part at a time, for looking at one may change another, and an object is good for 512 calls. */
    private static List<Long> look(UnsaidBallast x, int part) {
        List<Long> all = new ArrayList<>();
        if (part == 0) {
            lookAtNow(x, all);
            lookAtSeen(x, all);
        } else if (part <= 4) {
            lookAtSheet(x, part - 1, all);
        } else if (part == 5) {
            for (int k = 0; k < 2; k++) {
                all.add((long) x.back(k));
                lookAtNow(x, all);
            }
        } else {
            all.add((long) x.text());
            lookAtNow(x, all);
        }
        return all;
    }

    /** The call answers so, and all is as it was. */
    private static void leaves(String name, Supplier<UnsaidBallast> made, Call call, long want) {
        for (int part = 0; part < PARTS; part++) {
            UnsaidBallast asked = made.get();
            long got = call.on(asked);
            if (part == 0) due(name, got, want);
            boolean same = look(asked, part).equals(look(made.get(), part));
            if (!same) due(name + " changed something (part " + part + ")", 1, 0);
            else right++;
        }
    }

    /** least and greatest are taken, with these answers; those beyond are BAD, and change nothing. */
    private static void bounds(String name, Supplier<UnsaidBallast> made, CallOf call, int least, long atLeast,
            int greatest, long atGreatest) {
        due(name + " of " + least, call.on(made.get(), least), atLeast);
        due(name + " of " + greatest, call.on(made.get(), greatest), atGreatest);
        for (int v : new int[] {least - 1, greatest + 1, MIN, MAX}) leaves(name + " of " + v, made, x -> call.on(x, v), BAD);
    }

    // ==== Terms

    private static void theFirstAnswerThatFits() {
        sentence = "BAD, STATE, FULL, NONE, the first that fits";
        leaves("feed(32)", BoundaryTest::full, x -> x.feed(32), FULL);
        leaves("feed(128)", BoundaryTest::full, x -> x.feed(128), BAD);
        leaves("feed(-1)", BoundaryTest::full, x -> x.feed(-1), BAD);
        leaves("plan(0, 0)", BoundaryTest::full, x -> x.plan(0, 0), FULL);
        leaves("plan(100, 0)", BoundaryTest::full, x -> x.plan(100, 0), BAD);
        leaves("plan(0, 6)", BoundaryTest::full, x -> x.plan(0, 6), BAD);
        leaves("see(0, 0)", BoundaryTest::full, x -> x.see(0, 0), FULL);
        leaves("see(31, 0)", BoundaryTest::full, x -> x.see(31, 0), BAD);
        leaves("see(0, 61)", BoundaryTest::full, x -> x.see(0, 61), BAD);
        leaves("minutes(1)", BoundaryTest::full, x -> x.minutes(1), FULL);
        leaves("minutes(30)", BoundaryTest::full, x -> x.minutes(30), FULL);
        leaves("minutes(31)", BoundaryTest::full, x -> x.minutes(31), BAD);
        leaves("minutes(-1)", BoundaryTest::full, x -> x.minutes(-1), BAD);
        leaves("drift(1, 1, 0)", BoundaryTest::fresh, x -> x.drift(1, 1, 0), STATE);
        leaves("drift(1, 0, 0)", BoundaryTest::fresh, x -> x.drift(1, 0, 0), BAD);
        leaves("drift(1, 61, 0)", BoundaryTest::fresh, x -> x.drift(1, 61, 0), BAD);
        leaves("drift(1, 1, 2)", BoundaryTest::fresh, x -> x.drift(1, 1, 2), BAD);
        leaves("back(1)", BoundaryTest::fresh, x -> x.back(1), STATE);
        leaves("back(2)", BoundaryTest::fresh, x -> x.back(2), BAD);
        leaves("best(0)", BoundaryTest::still, x -> x.best(0), NONE);
        leaves("best(2)", BoundaryTest::still, x -> x.best(2), BAD);
        leaves("both(50, 0)", BoundaryTest::still, x -> x.both(50, 2), BAD);
        leaves("both(49, 0)", BoundaryTest::still, x -> x.both(49, 0), NONE);
        leaves("both(100, 0)", BoundaryTest::still, x -> x.both(100, 0), BAD);
        leaves("hush(60, 0)", BoundaryTest::still, x -> x.hush(60, 0), NONE);
        leaves("hush(60, 2)", BoundaryTest::still, x -> x.hush(60, 2), BAD);
        leaves("hush(61, 0)", BoundaryTest::still, x -> x.hush(61, 0), BAD);
        leaves("swap(1)", BoundaryTest::still, x -> x.swap(1), NONE);
        leaves("swap(2)", BoundaryTest::still, x -> x.swap(2), BAD);
        leaves("need(0, 0, 60)", BoundaryTest::still, x -> x.need(0, 0, 60), NONE);
        leaves("need(0, 0, 61)", BoundaryTest::still, x -> x.need(0, 0, 61), BAD);
        leaves("church(0)", BoundaryTest::still, x -> x.church(0), NONE);
        leaves("church(-1)", BoundaryTest::still, x -> x.church(-1), BAD);
        leaves("sheet(4, 0, -1)", BoundaryTest::some, x -> x.sheet(4, 0, -1), BAD);
        leaves("sheet(0, 3, -1)", BoundaryTest::some, x -> x.sheet(0, 3, -1), BAD);
        leaves("sheet(0, 0, -1)", BoundaryTest::some, x -> x.sheet(0, 0, -1), -14);
        leaves("lay(4, -1, 0)", BoundaryTest::some, x -> x.lay(4, -1, 0), BAD);
        leaves("lay(3, -1, 0)", BoundaryTest::some, x -> x.lay(3, -1, 0), -11);
        leaves("lay(2, 0, 0)", BoundaryTest::some, x -> x.lay(2, 0, 0), -12);
    }

    private static void unseenIsNone() {
        sentence = "BAD, STATE, FULL, NONE, the first that fits";
        Supplier<UnsaidBallast> never = () -> {
            UnsaidBallast x = still();
            x.see(0, 8);
            return x;
        };
        leaves("saids(0)", never, x -> x.saids(0), 0);
        leaves("saids(1)", never, x -> x.saids(1), NONE);
        leaves("saids(2)", never, x -> x.saids(2), BAD);
        leaves("ask(0, 0)", never, x -> x.ask(0, 0), NONE);
        leaves("ask(0, 1)", never, x -> x.ask(0, 1), NONE);
        leaves("ask(0, 2)", never, x -> x.ask(0, 2), BAD);
        leaves("ask(2, 0)", never, x -> x.ask(2, 0), BAD);
        leaves("kinds(0)", never, x -> x.kinds(0), 0);
        leaves("weights(0)", never, x -> x.weights(0), 0);
    }

    private static void noSuchOne() {
        sentence = "BAD: there is no such THING, WIND, SAYING, IMAGE, SHEET";
        List<Supplier<UnsaidBallast>> empty = List.of(BoundaryTest::fresh, () -> told("rate 3;"));
        for (Supplier<UnsaidBallast> none : empty) {
            leaves("thing(0, 0) of none", none, x -> x.thing(0, 0), BAD);
            leaves("alter(0, 0, 0) of none", none, x -> x.alter(0, 0, 0), BAD);
            leaves("say(0) of none", none, x -> x.say(0), BAD);
            leaves("take(0) of none", none, x -> x.take(0), BAD);
            leaves("plan(0, 0) of none", none, x -> x.plan(0, 0), BAD);
            leaves("saying(0, 0) of none", none, x -> x.saying(0, 0), BAD);
            leaves("when(0, 0, 0, 0) of none", none, x -> x.when(0, 0, 0, 0), BAD);
            leaves("need(0, 0, 0) of none", none, x -> x.need(0, 0, 0), BAD);
            leaves("kinds(0) of none", none, x -> x.kinds(0), BAD);
            leaves("weights(0) of none", none, x -> x.weights(0), BAD);
            leaves("ask(0, 0) of none", none, x -> x.ask(0, 0), BAD);
            leaves("cut(1) of none", none, x -> x.cut(1), BAD);
            leaves("cut(0) of none", none, x -> x.cut(0), 0);
            leaves("forget(1) of none", none, x -> x.forget(1), BAD);
            leaves("forget(0) of none", none, x -> x.forget(0), 0);
            leaves("end(1) of none", none, x -> x.end(1), BAD);
            leaves("end(0) of none", none, x -> x.end(0), 0);
            leaves("best(0) of none", none, x -> x.best(0), NONE);
            leaves("both(0, 0) of none", none, x -> x.both(0, 0), NONE);
            leaves("hush(60, 0) of none", none, x -> x.hush(60, 0), NONE);
            leaves("swap(0) of none", none, x -> x.swap(0), NONE);
            leaves("saids(0) of none: the empty set", none, x -> x.saids(0), 1);
            leaves("saids(1) of none: the empty set", none, x -> x.saids(1), 0);
            leaves("falls() of none: it stays down", none, x -> x.falls(), 1);
            leaves("church(0) of none", none, x -> x.church(0), 0);
            leaves("church(1) of none", none, x -> x.church(1), NONE);
            leaves("luck(5, 60, 0, 0) of none", none, x -> x.luck(5, 60, 0, 0), 1);
            leaves("luck(5, 60, 0, 1) of none", none, x -> x.luck(5, 60, 0, 1), 1);
            leaves("mean(5, 60, 0) of none", none, x -> x.mean(5, 60, 0), 0);
            leaves("mean(5, 60, 1) of none", none, x -> x.mean(5, 60, 1), 1);
            leaves("steer(0, 9, 3, 0) of none", none, x -> x.steer(0, 9, 3, 0), 7);
            leaves("steer(0, 9, 3, 1) of none", none, x -> x.steer(0, 9, 3, 1), 0);
        }
    }

    private static void fractions() {
        sentence = "Fractions are in lowest terms, the denominator above 0 (0 is 0 by 1)";
        Supplier<UnsaidBallast> one = () -> {
            UnsaidBallast x = told("plain 4 0;rate 9;start 4 0;");
            x.plan(0, 0);
            return x;
        };
        long[][] odds = {{0, 1, 1}, {1, 9, 10}, {2, 4, 5}, {4, 3, 5}, {5, 1, 2}, {6, 2, 5}, {8, 1, 5}, {9, 1, 10}, {10, 0, 1}};
        for (long[] o : odds) {
            leaves("luck(" + o[0] + ", 1, 0, 0)", one, x -> x.luck((int) o[0], 1, 0, 0), o[1]);
            leaves("luck(" + o[0] + ", 1, 0, 1)", one, x -> x.luck((int) o[0], 1, 0, 1), o[2]);
        }
        long[][] means = {{0, 0, 1}, {1, 2, 5}, {5, 2, 1}, {9, 18, 5}, {10, 4, 1}};
        for (long[] m : means) {
            leaves("mean(" + m[0] + ", 1, 0)", one, x -> x.mean((int) m[0], 1, 0), m[1]);
            leaves("mean(" + m[0] + ", 1, 1)", one, x -> x.mean((int) m[0], 1, 1), m[2]);
        }
    }

    private static void sixThingsAtMost() {
        sentence = "THINGS 0 on (6 at most, by order)";
        UnsaidBallast x = six();
        due("rule(0)", x.rule(0), 6);
        int[][] things = {{0, 1, 0}, {1, 2, 1}, {2, 3, 0}, {3, 4, 1}, {0, 5, 0}, {1, 6, 1}};
        for (int i = 0; i < 6; i++) {
            for (int what = 0; what < 3; what++) due("thing(" + i + ", " + what + ")", x.thing(i, what), things[i][what]);
            due("thing(" + i + ", 3), not at first", x.thing(i, 3), 0);
        }
        bounds("thing(i, 1)", BoundaryTest::six, (o, i) -> o.thing(i, 1), 0, 1, 5, 6);
    }

    private static void asAtFirst() {
        sentence = "0 at first, 1 at first, 4 at first";
        for (UnsaidBallast x : new UnsaidBallast[] {fresh(), told(""), told("plain 1 0;")}) {
            due("HEIGHT", x.rule(2), 0);
            due("PLACE", x.rule(3), 0);
            due("RATE", x.rule(6), 1);
            due("MINUTE", x.rule(1), 0);
            due("SAID", x.rule(5), 0);
            due("SAYINGS", x.rule(7), 0);
            for (int k = 0; k < 5; k++) due("WIND " + k, x.wind(k), 4);
        }
        leaves("lay(3, 0, 0): SHEETS are nothing at first", BoundaryTest::fresh, x -> x.lay(3, 0, 0), -11);
    }

    private static void liftsByKind() {
        sentence = "LIFTS by KIND, half (down), as much less than nothing";
        int[][] unsaid = {{1, 2, 3, 4, 5, 6, 7, 8, 9}, {1, 2, 3, 4, 5, 6, 7, 8, 9},
            {2, 4, 6, 8, 10, 12, 14, 16, 18}, {1, 2, 3, 4, 5, 6, 7, 8, 9}};
        int[][] said = {{0, 0, 0, 0, 0, 0, 0, 0, 0}, {0, 1, 1, 2, 2, 3, 3, 4, 4},
            {0, 0, 0, 0, 0, 0, 0, 0, 0}, {0, -1, -1, -2, -2, -3, -3, -4, -4}};
        for (int kind = 0; kind < 4; kind++) {
            for (int weight = 1; weight <= 9; weight++) {
                UnsaidBallast x = told("plain 1 0;");
                x.alter(0, 0, kind);
                x.alter(0, 1, weight);
                due("KIND " + kind + ", WEIGHT " + weight, x.thing(0, 4), 20 + unsaid[kind][weight - 1]);
                due("LIFT", x.rule(4), unsaid[kind][weight - 1]);
                due("say(0)", x.say(0), Math.max(0, said[kind][weight - 1]));
                due("KIND " + kind + ", WEIGHT " + weight + ", SAID", x.thing(0, 4), 20 + said[kind][weight - 1]);
                due("take(0)", x.take(0), unsaid[kind][weight - 1]);
            }
        }
    }

    private static void liftIsBounded() {
        sentence = "LIFT: summed; 0 at least, 60 at most";
        UnsaidBallast x = told("secret 9 0;secret 9 0;secret 9 0;plain 5 0;joke 9 0;");
        x.say(4);
        for (int w : new int[] {8, 9}) {
            x.alter(3, 1, w);
            due("54 and " + w + " less 4", x.rule(4), w + 50);
            due("take(4): more by 13", x.take(4), 60);
            due("say(4)", x.say(4), w + 50);
        }
        x.alter(4, 1, 7);
        due("54 and 9 less 3", x.rule(4), 60);
        x.alter(4, 1, 5);
        due("54 and 9 less 2: summed first, then 60 at most", x.rule(4), 60);
        due("say(0)", x.say(0), 43);
        UnsaidBallast low = told("joke 9 0;joke 9 1;plain 9 0;start 3 0;");
        low.say(0);
        low.say(1);
        due("9 less 8", low.rule(4), 1);
        low.alter(2, 1, 8);
        due("8 less 8", low.rule(4), 0);
        low.alter(2, 1, 7);
        due("7 less 8", low.rule(4), 0);
        due("minutes(4): down, not below", low.minutes(4), 0);
        due("take(0)", low.take(0), 12);
        UnsaidBallast high = told("secret 9 0;secret 9 0;secret 9 0;secret 9 0;rate 9;start 55 0;");
        due("LIFT of 72", high.rule(4), 60);
        due("minutes(1)", high.minutes(1), 60);
        due("minutes(1)", high.minutes(1), 60);
        due("say(0): 54", high.say(0), 54);
    }

    private static void refusedText(String s, int place, int fault) {
        UnsaidBallast x = told("rate 7;joke 3 1;");
        x.see(3, 3);
        x.plan(9, 0);
        x.keep(1);
        fed(x, s);
        due("count(2) of \"" + s + "\"", x.count(2), s.length());
        due("text() of \"" + s + "\"", x.text(), -10 - place);
        due("fault() of \"" + s + "\"", x.fault(), fault);
        due("count(2): THE TAPE is empty", x.count(2), 0);
        due("rule(6) stays", x.rule(6), 7);
        due("rule(0) stays", x.rule(0), 1);
        due("thing(0, 1) stays", x.thing(0, 1), 3);
        due("rule(7) stays", x.rule(7), 1);
        due("count(0) stays", x.count(0), 1);
        due("count(1) stays", x.count(1), 1);
        due("back(1) stays", x.back(1), 0);
    }

    private static void takenText(String s, int lines) {
        UnsaidBallast x = fresh();
        fed(x, "!").text();
        due("text() of \"" + s + "\"", fed(x, s).text(), lines);
        due("fault() of \"" + s + "\"", x.fault(), 0);
        due("count(2): THE TAPE is empty", x.count(2), 0);
    }

    private static void tapeOf160Bytes() {
        sentence = "THE TAPE has 160 bytes, places from 0";
        String blanks = " ".repeat(153);
        takenText(blanks + "rate 3;", 1);
        takenText("rate 3;" + blanks, 1);
        takenText(" ".repeat(160), 0);
        takenText("rate" + " ".repeat(154) + "3;", 1);
        refusedText(" ".repeat(159) + "!", 159, 1);
        refusedText(" ".repeat(159) + "a", 159, 2);
        refusedText(" ".repeat(155) + "plain", 160, 2);
        refusedText(blanks + "rate 3 ", 160, 2);
        refusedText("a".repeat(160), 0, 2);
        refusedText("0".repeat(160), 0, 1);
        refusedText(";".repeat(160), 0, 2);
        refusedText("!" + " ".repeat(159), 0, 1);
        UnsaidBallast x = fresh();
        for (int n = 1; n <= 160; n++) due("feed() the " + n + "th", x.feed("rate 3;".charAt(Math.max(0, n - 154))), n);
        due("feed() the 161st", x.feed(' '), FULL);
        due("count(2)", x.count(2), 160);
        due("end(159)", x.end(159), 160);
        due("feed(';') fits again", x.feed(';'), 160);
        due("feed(';') is one too many again", x.feed(';'), FULL);
        due("text(): a name of 154 r", x.text(), -10);
        due("feed(0): THE TAPE is empty", x.feed(0), 1);
    }

    private static void tokensAsLongAsMayBe() {
        sentence = "TOKENS, each as long as may be, blanks (32) between: NAMES (a .. z), NUMBERS (1 or 2 figures), one ; .";
        takenText("plain1 0;tact02 01;secret9 0;joke 9 1;wind4 8;rate9;start60 99;", 7);
        takenText("plain 1   0 ; ", 1);
        refusedText("plain 10;", 6, 3);
        refusedText("plain 1 00 1;", 11, 2);
        refusedText("plain 1 0 01;", 10, 2);
        refusedText("pla in 1 0;", 0, 2);
        refusedText("plain 1 0;r ate 1;", 10, 2);
        refusedText("rate 100;", 5, 1);
        refusedText("rate 001;", 5, 1);
        refusedText("rate 1 0;", 7, 2);
        refusedText("planta 1 0;", 0, 2);
        refusedText("ratestart 1;", 0, 2);
        for (int c = 0; c < 128; c++) {
            boolean stands = c >= 'a' && c <= 'z' || c >= '0' && c <= '9' || c == ';' || c == ' ';
            if (!stands) {
                refusedText("rate 1;" + (char) c, 7, 1);
                refusedText("rate" + (char) c + "1;", 4, 1);
                refusedText("rate 1" + (char) c + ";", 6, 1);
            }
        }
        takenText("rate 1; ", 1);
        refusedText("rate 1;;", 7, 2);
        refusedText("rate 1;a", 7, 2);
        refusedText("rate 1;z", 7, 2);
        refusedText("rate 1;0", 7, 2);
        refusedText("rate 1;9", 7, 2);
    }

    private static void linesOfAText() {
        sentence = "text: { line }";
        takenText("", 0);
        takenText("plain1 0;plain2 1;plain3 0;plain4 1;plain5 0;plain6 1;wind0 0;wind1 1;wind2 2;wind3 3;wind4 8;rate9;start60 99;", 13);
        for (String name : new String[] {"plain", "tact", "secret", "joke", "wind", "start"}) {
            int at = name.length();
            takenText(name + " 1 1;", 1);
            refusedText(name, at, 2);
            refusedText(name + " ", at + 1, 2);
            refusedText(name + ";", at, 2);
            refusedText(name + " 1", at + 2, 2);
            refusedText(name + " 1;", at + 2, 2);
            refusedText(name + " 1 rate", at + 3, 2);
            refusedText(name + " 1 1", at + 4, 2);
            refusedText(name + " 1 1 1", at + 5, 2);
            refusedText(name + " 1 1rate", at + 4, 2);
        }
        takenText("rate 1;", 1);
        refusedText("rate", 4, 2);
        refusedText("rate;", 4, 2);
        refusedText("rate 1", 6, 2);
        refusedText("rate 1 1;", 7, 2);
        refusedText("rate plain", 5, 2);
    }

    private static void numbersOfAText() {
        sentence = "FAULTS: 3 a NUMBER out of its bounds";
        for (String name : new String[] {"plain", "tact", "secret", "joke"}) {
            int at = name.length() + 1;
            takenText(name + " 1 0;" + name + " 9 1;", 2);
            refusedText(name + " 0 0;", at, 3);
            refusedText(name + " 10 0;", at, 3);
            refusedText(name + " 99 0;", at, 3);
            refusedText(name + " 1 2;", at + 2, 3);
            refusedText(name + " 1 99;", at + 2, 3);
        }
        takenText("wind 0 0;wind 4 8;", 2);
        refusedText("wind 5 0;", 5, 3);
        refusedText("wind 99 0;", 5, 3);
        refusedText("wind 0 9;", 7, 3);
        takenText("rate 1;", 1);
        takenText("rate 9;", 1);
        refusedText("rate 0;", 5, 3);
        refusedText("rate 00;", 5, 3);
        refusedText("rate 10;", 5, 3);
        takenText("start 0 0;", 1);
        takenText("start 60 99;", 1);
        refusedText("start 61 0;", 6, 3);
        refusedText("start 60 100;", 9, 1);
        UnsaidBallast x = told("start 60 99;rate 9;wind 0 0;wind 4 8;");
        int[] rules = {0, 0, 60, 99, 0, 0, 9, 0};
        for (int what = 0; what < 8; what++) due("rule(" + what + ")", x.rule(what), rules[what]);
        due("wind(0)", x.wind(0), 0);
        due("wind(4)", x.wind(4), 8);
    }

    private static void toldTwiceOrOneTooMany() {
        sentence = "FAULTS: 4 rate, start for the second time (its NAME); a WIND that is told already (it). 5 the 7th THING (its NAME)";
        refusedText("rate 1; rate 1;", 8, 4);
        refusedText("rate 1;rate", 7, 4);
        refusedText("rate 1;rate 0;", 7, 4);
        refusedText("start 0 0; start 0 0;", 11, 4);
        refusedText("start 0 0;start", 10, 4);
        refusedText("start 0 0;start 61", 10, 4);
        takenText("rate 1;start 0 0;", 2);
        for (int k = 0; k < 5; k++) {
            refusedText("wind " + k + " 4;wind " + k, 14, 4);
            refusedText("wind " + k + " 4;wind 0" + k + " 9;", 14, 4);
            takenText("wind " + k + " 4;wind " + (k + 1) % 5 + " 4;", 2);
        }
        refusedText("wind 0 4;wind", 13, 2);
        refusedText("wind 0 4;wind 5", 14, 3);
        String six = "plain1 0;tact1 0;secret1 0;joke1 0;plain1 0;tact1 0;";
        int at = six.length();
        takenText(six, 6);
        takenText(six + "wind 0 4;rate 1;start 0 0;", 9);
        for (String name : new String[] {"plain", "tact", "secret", "joke"}) {
            refusedText(six + name, at, 5);
            refusedText(six + name + " 0 2", at, 5);
            refusedText(six + "rate 1; " + name + " 1 1;", at + 8, 5);
        }
        refusedText(six + "plains", at, 2);
        refusedText(six + "rate 1;rate", at + 7, 4);
    }

    private static void theFirstFaultMet() {
        sentence = "FAULTS, the first met as it is read (a TOKEN is read when the one before has been taken)";
        refusedText("plain 0 !", 6, 3);
        refusedText("plain 1 2!", 8, 3);
        refusedText("plain !", 6, 1);
        refusedText("plain ;!", 6, 2);
        refusedText("plain 1 1!;", 9, 1);
        refusedText("plain 1 1 123", 10, 1);
        refusedText("plain 1 1 12", 10, 2);
        refusedText("plain 1 1;123", 10, 1);
        refusedText("plain 1 1;12", 10, 2);
        refusedText("nothing!", 0, 2);
        refusedText("rate 1;rate!", 7, 4);
        refusedText("wind 1 1;wind 1!", 14, 4);
        refusedText("wind 1 1;wind 111", 14, 1);
        refusedText("wind 9 !", 5, 3);
        refusedText("start 61!", 6, 3);
        refusedText("start 60!", 8, 1);
    }

    private static void aTakenTextTellsAll() {
        sentence = "A text that is taken tells all, in place of what there was";
        for (UnsaidBallast x : new UnsaidBallast[] {some(), full()}) {
            int cells = x.count(3);
            int torn = x.torn();
            x.end(0);
            due("text() of nothing", x.text(), 0);
            due("fault()", x.fault(), 0);
            int[] rules = {0, 0, 0, 0, 0, 0, 1, 0};
            for (int what = 0; what < 8; what++) due("rule(" + what + ")", x.rule(what), rules[what]);
            for (int k = 0; k < 5; k++) due("wind(" + k + ")", x.wind(k), 4);
            due("count(0): nothing is SEEN", x.count(0), 0);
            due("count(1): IMAGES are gone", x.count(1), 0);
            due("back(0)", x.back(0), STATE);
            due("back(1)", x.back(1), STATE);
            due("keep(0): there was none", x.keep(0), 0);
            due("count(3): SHEETS stay", x.count(3), cells);
            due("torn() stays", x.torn(), torn);
        }
    }

    private static void heightGoesTowardsLift() {
        sentence = "HEIGHT goes towards LIFT, RATE yards at most";
        for (int rate = 1; rate <= 9; rate++) {
            for (int far = 0; far <= 20; far++) {
                UnsaidBallast up = told("secret 9 0;secret 9 0;plain 4 1;start " + (40 - far) + " 0;rate " + rate + ";");
                due("up by " + far + " at " + rate, up.minutes(1), 40 - far + Math.min(far, rate));
                UnsaidBallast down = told("secret 9 0;secret 9 0;plain 4 1;start " + (40 + far) + " 0;rate " + rate + ";");
                due("down by " + far + " at " + rate, down.minutes(1), 40 + far - Math.min(far, rate));
            }
        }
        due("down to 0 from 1 by 9", told("start 1 0;rate 9;").minutes(1), 0);
        due("down to 0 from 9 by 9", told("start 9 0;rate 9;").minutes(1), 0);
        due("down to 1 from 10 by 9", told("start 10 0;rate 9;").minutes(1), 1);
        due("0 stays", told("rate 9;").minutes(1), 0);
        String heavy = "secret 9 0;secret 9 0;secret 9 0;secret 9 0;rate 9;";
        due("up to 60 from 51", told(heavy + "start 51 0;").minutes(1), 60);
        due("up to 60 from 52", told(heavy + "start 52 0;").minutes(1), 60);
        due("up to 59 from 50", told(heavy + "start 50 0;").minutes(1), 59);
        due("60 stays", told(heavy + "start 60 0;").minutes(30), 60);
    }

    private static void placeGoesByTheWind() {
        sentence = "PLACE goes by the WIND: STRENGTH less 4, 0 to 99 at the ends";
        for (int strength = 0; strength <= 8; strength++) {
            for (int place : new int[] {0, 1, 3, 4, 5, 50, 94, 95, 96, 98, 99}) {
                UnsaidBallast x = told("start 0 " + place + ";wind 0 " + strength + ";");
                x.minutes(1);
                due("PLACE from " + place + " by " + strength, x.rule(3), Math.max(0, Math.min(99, place + strength - 4)));
            }
        }
        UnsaidBallast x = told("start 0 98;wind 0 8;");
        x.minutes(3);
        due("it waits at 99", x.rule(3), 99);
        x.blow(0, 3);
        x.minutes(1);
        due("and comes back from 99", x.rule(3), 98);
        x.blow(0, 0);
        x.minutes(30);
        due("it waits at 0", x.rule(3), 0);
        x.blow(0, 5);
        x.minutes(1);
        due("and comes back from 0", x.rule(3), 1);
    }

    private static void theWindThatBlowsThere() {
        sentence = "WIND 0 blows at HEIGHT 0 to 9, 1 at 10 to 19, 2 at 20 to 29, 3 at 30 to 39, 4 above";
        for (int height = 0; height < 60; height++) {
            UnsaidBallast x = told("start " + (height + 1) + " 50;");
            for (int k = 0; k < 5; k++) x.blow(k, k == 4 ? 8 : k + (k > 1 ? 3 : 0));
            int[] by = {0, 1, 5, 6, 8};
            x.minutes(1);
            due("HEIGHT", x.rule(2), height);
            due("PLACE at " + height, x.rule(3), 50 + by[Math.min(4, height / 10)] - 4);
        }
        UnsaidBallast top = told("secret 9 0;secret 9 0;secret 9 0;secret 9 0;start 59 50;wind 4 8;wind 3 0;");
        due("minutes(1)", top.minutes(1), 60);
        due("PLACE at 60", top.rule(3), 54);
    }

    private static void sayingsOfThisMinute() {
        sentence = "each SAYING of THE PLAN of this MINUTE: its THING is SAID (it may be already)";
        UnsaidBallast x = told("plain 4 0;tact 3 1;rate 9;");
        x.plan(0, 0);
        x.plan(0, 0);
        x.plan(99, 1);
        x.say(0);
        due("minutes(0): no MINUTE runs", x.minutes(0), 0);
        due("minutes(1): said already", x.minutes(1), 3);
        due("rule(5)", x.rule(5), 1);
        x.take(0);
        due("its MINUTE is over", x.minutes(1), 7);
        due("rule(5)", x.rule(5), 0);
        for (int n = 0; n < 3; n++) x.minutes(30);
        x.minutes(7);
        due("rule(1)", x.rule(1), 99);
        due("rule(5): not yet", x.rule(5), 0);
        due("runs(0, 4)", x.runs(0, 4), 0);
        due("runs(1, 4)", x.runs(1, 4), 2);
        due("minutes(1): the SAYING of 99", x.minutes(1), 5);
        due("rule(5)", x.rule(5), 2);
        due("rule(7): THE PLAN stays", x.rule(7), 3);
        due("plan(0, 0): a MINUTE that is over may be planned", x.plan(0, 0), 4);
        due("minutes(30): no SAYING comes again", x.minutes(30), 5);
    }

    // ==== Promises 2 to 9: the text

    private static void feedAndEnd() {
        sentence = "feed: A byte (0 to 127); FULL: more than 160";
        bounds("feed(c)", BoundaryTest::fresh, (x, c) -> x.feed(c), 0, 1, 127, 1);
        bounds("feed(c) behind some", BoundaryTest::some, (x, c) -> x.feed(c), 0, 12, 127, 12);
        leaves("feed(0), the 161st", BoundaryTest::full, x -> x.feed(0), FULL);
        leaves("feed(127), the 161st", BoundaryTest::full, x -> x.feed(127), FULL);
        sentence = "end: THE TAPE keeps its first n bytes";
        bounds("end(n)", BoundaryTest::some, (x, n) -> x.end(n), 0, 11, 11, 11);
        bounds("end(n)", BoundaryTest::full, (x, n) -> x.end(n), 0, 160, 160, 160);
        bounds("end(n)", BoundaryTest::fresh, (x, n) -> x.end(n), 0, 0, 0, 0);
        leaves("end(11) keeps all", BoundaryTest::some, x -> x.end(11), 11);
        UnsaidBallast x = some();
        due("end(9)", x.end(9), 11);
        due("count(2)", x.count(2), 9);
        due("text(): what was left", x.text(), 1);
        due("thing(0, 1)", x.thing(0, 1), 9);
    }

    private static void textAndFault() {
        sentence = "fault: The FAULT of the latest text(); 0";
        UnsaidBallast x = fresh();
        due("fault() of none", x.fault(), 0);
        String[] texts = {"!", ";", "rate 0;", "rate 1;rate", "plain1 0;".repeat(7)};
        int[] places = {0, 0, 5, 7, 54};
        for (int k = 0; k < 5; k++) {
            due("text()", fed(x, texts[k]).text(), -10 - places[k]);
            due("fault()", x.fault(), k + 1);
            due("fault() again", x.fault(), k + 1);
            x.feed('a');
            x.end(0);
            due("fault() as THE TAPE changes", x.fault(), k + 1);
            due("rule(0): nothing came", x.rule(0), 0);
        }
        due("text() of nothing", x.text(), 0);
        due("fault()", x.fault(), 0);
    }

    private static void whatIsTold() {
        sentence = "rule: 0 to 7";
        bounds("rule(what)", BoundaryTest::some, (x, what) -> x.rule(what), 0, 4, 7, 3);
        sentence = "thing: 0 to 4";
        bounds("thing(i, 1)", BoundaryTest::some, (x, i) -> x.thing(i, 1), 0, 6, 3, 7);
        bounds("thing(3, what)", BoundaryTest::some, (x, what) -> x.thing(3, what), 0, 3, 4, 27);
        leaves("thing(4, 5)", BoundaryTest::some, x -> x.thing(4, 5), BAD);
        sentence = "wind: of a WIND";
        bounds("wind(k)", () -> told("wind 0 8;wind 4 0;"), (x, k) -> x.wind(k), 0, 8, 4, 0);
        sentence = "saying: Of a SAYING of THE PLAN: 0, 1";
        bounds("saying(k, 0)", BoundaryTest::some, (x, k) -> x.saying(k, 0), 0, 1, 2, 9);
        bounds("saying(k, 0)", BoundaryTest::full, (x, k) -> x.saying(k, 0), 0, 90, 7, 97);
        bounds("saying(2, what)", BoundaryTest::some, (x, what) -> x.saying(2, what), 0, 9, 1, 3);
    }

    // ==== Promises 10 to 16: what is changed

    private static void whatIsAltered() {
        sentence = "alter: KIND, WEIGHT, WHOSE (what 0 to 2) of a THING becomes v";
        bounds("alter(i, 1, 1)", BoundaryTest::six, (x, i) -> x.alter(i, 1, 1), 0, 1, 5, 6);
        bounds("alter(3, what, 1)", BoundaryTest::six, (x, what) -> x.alter(3, what, 1), 0, 3, 2, 1);
        bounds("alter(3, 0, v)", BoundaryTest::six, (x, v) -> x.alter(3, 0, v), 0, 3, 3, 3);
        bounds("alter(3, 1, v)", BoundaryTest::six, (x, v) -> x.alter(3, 1, v), 1, 4, 9, 4);
        bounds("alter(3, 2, v)", BoundaryTest::six, (x, v) -> x.alter(3, 2, v), 0, 1, 1, 1);
        int[][] ends = {{0, 0, 3}, {1, 1, 9}, {2, 0, 1}};
        for (int[] e : ends) {
            UnsaidBallast x = six();
            x.alter(5, e[0], e[1]);
            due("thing(5, " + e[0] + ")", x.thing(5, e[0]), e[1]);
            due("alter(5, " + e[0] + ")", x.alter(5, e[0], e[2]), e[1]);
            due("thing(5, " + e[0] + ")", x.thing(5, e[0]), e[2]);
        }
        sentence = "blow: STRENGTH of a WIND becomes v";
        bounds("blow(k, 1)", BoundaryTest::some, (x, k) -> x.blow(k, 1), 0, 5, 4, 4);
        bounds("blow(2, v)", BoundaryTest::some, (x, v) -> x.blow(2, v), 0, 7, 8, 7);
        UnsaidBallast x = fresh();
        x.blow(4, 8);
        due("blow(4, 0)", x.blow(4, 0), 8);
        due("wind(4)", x.wind(4), 0);
        sentence = "rate: RATE becomes v";
        bounds("rate(v)", BoundaryTest::some, (y, v) -> y.rate(v), 1, 2, 9, 2);
        x.rate(9);
        due("rate(1)", x.rate(1), 9);
        due("rule(6)", x.rule(6), 1);
    }

    private static void whatIsSaid() {
        sentence = "say: A THING is SAID now. STATE: it is already";
        bounds("say(i)", BoundaryTest::six, (x, i) -> x.say(i), 0, 23, 5, 21);
        leaves("say(1), SAID", BoundaryTest::some, x -> x.say(1), STATE);
        sentence = "take: A THING is taken back. STATE: it is not SAID";
        bounds("take(i)", () -> {
            UnsaidBallast x = six();
            x.say(0);
            x.say(5);
            return x;
        }, (x, i) -> x.take(i), 0, 21, 5, 23);
        leaves("take(0), not SAID", BoundaryTest::some, x -> x.take(0), STATE);
        UnsaidBallast x = six();
        for (int i = 0; i < 6; i++) x.say(i);
        due("rule(5): all are SAID", x.rule(5), 63);
        due("rule(4)", x.rule(4), 2);
        for (int i = 0; i < 6; i++) due("say(" + i + ")", x.say(i), STATE);
        for (int i = 0; i < 6; i++) x.take(i);
        due("rule(5): none is SAID", x.rule(5), 0);
        for (int i = 0; i < 6; i++) due("take(" + i + ")", x.take(i), STATE);
    }

    private static void whatIsPlanned() {
        sentence = "plan: A SAYING more in THE PLAN: a MINUTE (0 to 99), a THING; FULL (8 at most)";
        bounds("plan(minute, 0)", BoundaryTest::some, (x, m) -> x.plan(m, 0), 0, 4, 99, 4);
        bounds("plan(5, i)", BoundaryTest::some, (x, i) -> x.plan(5, i), 0, 4, 3, 4);
        bounds("plan(5, i)", BoundaryTest::six, (x, i) -> x.plan(5, i), 0, 1, 5, 1);
        UnsaidBallast x = six();
        for (int k = 0; k < 8; k++) due("plan() the " + (k + 1) + "th", x.plan(k == 7 ? 99 : k, k % 6), k + 1);
        due("plan() the 9th", x.plan(0, 0), FULL);
        due("rule(7)", x.rule(7), 8);
        due("saying(7, 0)", x.saying(7, 0), 99);
        due("saying(7, 1)", x.saying(7, 1), 1);
        due("cut(7)", x.cut(7), 8);
        due("plan() fits again", x.plan(1, 5), 8);
        due("saying(7, 1)", x.saying(7, 1), 5);
        sentence = "cut: THE PLAN has its first n SAYINGS alone";
        bounds("cut(n)", BoundaryTest::some, (y, n) -> y.cut(n), 0, 3, 3, 3);
        bounds("cut(n)", BoundaryTest::full, (y, n) -> y.cut(n), 0, 8, 8, 8);
        leaves("cut(8) keeps all", BoundaryTest::full, y -> y.cut(8), 8);
        due("cut(1)", x.cut(1), 8);
        due("saying(0, 0)", x.saying(0, 0), 0);
        due("saying(1, 0)", x.saying(1, 0), BAD);
    }

    // ==== Promises 17 to 20: minutes

    private static void minutesThatRun() {
        sentence = "minutes: n MINUTES (0 to 30); FULL: MINUTE would be 1000 or more";
        bounds("minutes(n)", BoundaryTest::still, (x, n) -> x.minutes(n), 0, 7, 30, 7);
        leaves("minutes(0)", BoundaryTest::some, x -> x.minutes(0), 13);
        leaves("minutes(0) at 999", BoundaryTest::full, x -> x.minutes(0), 24);
        Supplier<UnsaidBallast> late = () -> {
            UnsaidBallast x = still();
            for (int n = 0; n < 32; n++) x.minutes(30);
            x.minutes(10);
            return x;
        };
        due("rule(1)", late.get().rule(1), 970);
        leaves("minutes(30) from 970", late, x -> x.minutes(30), FULL);
        UnsaidBallast x = late.get();
        due("minutes(29) from 970", x.minutes(29), 7);
        due("rule(1)", x.rule(1), 999);
        due("minutes(1) from 999", x.minutes(1), FULL);
        due("rule(1)", x.rule(1), 999);
        UnsaidBallast y = late.get();
        y.minutes(1);
        due("minutes(29) from 971", y.minutes(29), FULL);
        due("minutes(28) from 971", y.minutes(28), 7);
    }

    private static void minutesAsTheyWouldBe() {
        sentence = "runs: BY MINUTES, n of them (0 to 60)";
        for (int what = 0; what < 5; what++) {
            int[] due = {7, 50, 7, 0, 0};
            int w = what;
            bounds("runs(n, " + what + ")", BoundaryTest::still, (x, n) -> x.runs(n, w), 0, due[what], 60, due[what]);
        }
        bounds("runs(3, what)", BoundaryTest::still, (x, what) -> x.runs(3, what), 0, 7, 4, 0);
        leaves("runs(61, 5)", BoundaryTest::still, x -> x.runs(61, 5), BAD);
        for (int what = 0; what < 5; what++) {
            int w = what;
            long then = full().runs(60, w);
            leaves("runs(60, " + what + ") beyond 999", BoundaryTest::full, x -> x.runs(60, w), then);
        }
        due("runs(60, 0) beyond 999", full().runs(60, 0), 24);
        due("runs(0, 3): DOWN now is none of 1 to n", fresh().runs(0, 3), 0);
        due("runs(1, 3)", fresh().runs(1, 3), 1);
        due("runs(60, 3)", fresh().runs(60, 3), 60);
        due("runs(59, 3) from 60", told("start 60 0;").runs(59, 3), 0);
        due("runs(60, 3) from 60", told("start 60 0;").runs(60, 3), 1);
        due("runs(0, 2), now too", told("start 60 0;").runs(0, 2), 60);
        due("runs(60, 2), now too", told("start 60 0;").runs(60, 2), 60);
        UnsaidBallast said = told("plain 1 0;plain 2 0;");
        said.plan(60, 1);
        said.plan(59, 0);
        due("runs(60, 4): MINUTE 60 is not run", said.runs(60, 4), 1);
        due("runs(59, 4)", said.runs(59, 4), 0);
        said.minutes(1);
        due("runs(60, 4) from 1", said.runs(60, 4), 3);
    }

    private static void howSoonDown() {
        sentence = "falls: behind how many (1 to 60) it is DOWN first. NONE: behind none";
        leaves("falls() of 60", () -> told("start 60 0;"), x -> x.falls(), 60);
        leaves("falls() of 1", () -> told("start 1 0;"), x -> x.falls(), 1);
        leaves("falls() of 0", BoundaryTest::fresh, x -> x.falls(), 1);
        leaves("falls() never", BoundaryTest::still, x -> x.falls(), NONE);
        leaves("falls() at 61", () -> plannedFall(60), x -> x.falls(), NONE);
        leaves("falls() at 60", () -> plannedFall(59), x -> x.falls(), 60);
        leaves("falls() up now", () -> told("plain 1 0;"), x -> x.falls(), NONE);
        sentence = "church: behind how many (0 to 60) it is DOWN, and at a place c (0 to 99), first";
        bounds("church(c)", () -> told("wind 0 8;"), (x, c) -> x.church(c), 0, 0, 99, 25);
        leaves("church(60)", () -> told("wind 0 5;"), x -> x.church(60), 60);
        leaves("church(61)", () -> told("wind 0 5;"), x -> x.church(61), NONE);
        leaves("church(0) now, up then", () -> told("plain 9 0;"), x -> x.church(0), 0);
        leaves("church(0), there but up", () -> told("plain 9 0;start 9 0;"), x -> x.church(0), NONE);
        leaves("church(1), down but elsewhere", BoundaryTest::fresh, x -> x.church(1), NONE);
        leaves("church(0) at 60", () -> plannedFall(59), x -> x.church(0), 60);
        leaves("church(0) at 61", () -> plannedFall(60), x -> x.church(0), NONE);
        leaves("church(99) at the end", () -> told("start 0 99;wind 0 8;"), x -> x.church(99), 0);
    }

    /** One yard high until the THING is SAID. */
    private static UnsaidBallast plannedFall(int minute) {
        UnsaidBallast x = told("plain 1 0;start 1 0;");
        x.plan(minute, 0);
        return x;
    }

    // ==== Promises 21 to 27: what is best

    private static void bestToSay() {
        sentence = "best: The THING (not SAID), of several the first. NONE: by none";
        Supplier<UnsaidBallast> ground = () -> told("plain 4 0;start 9 0;rate 3;");
        bounds("best(what)", ground, (x, what) -> x.best(what), 0, 0, 1, 3);
        Supplier<UnsaidBallast> alike = () -> {
            UnsaidBallast x = told("plain 2 0;joke 4 0;joke 4 1;start 2 0;");
            x.say(0);
            x.plan(9, 1);
            x.plan(9, 2);
            return x;
        };
        leaves("best(0), of several the first", alike, x -> x.best(0), 1);
        leaves("best(1)", alike, x -> x.best(1), 11);
        leaves("best(0), all are SAID", () -> saidAll("plain 1 0;"), x -> x.best(0), NONE);
        leaves("best(1), all are SAID", () -> saidAll("plain 1 0;"), x -> x.best(1), NONE);
        leaves("best(0), none brings it down", BoundaryTest::still, x -> x.best(0), NONE);
        leaves("best(0) behind 60", () -> told("plain 4 0;start 60 0;"), x -> x.best(0), 0);
        leaves("best(1) behind 60", () -> told("plain 4 0;start 60 0;"), x -> x.best(1), 60);
    }

    /** What one call has found is nothing to the next. */
    private static void noneBehindSome() {
        sentence = "NONE (there is none)";
        Supplier<UnsaidBallast> asked = () -> {
            UnsaidBallast x = still();
            x.plan(3, 0);
            x.plan(3, 0);
            x.see(1, 7);
            return x;
        };
        Call[] calls = {x -> x.best(0), x -> x.both(49, 1), x -> x.hush(60, 0), x -> x.swap(1), x -> x.ask(0, 0), x -> x.church(49),
            x -> x.falls(), x -> x.need(0, 1, 60)};
        for (int k = 0; k < calls.length; k++) {
            Call call = calls[k];
            UnsaidBallast x = asked.get();
            due("steer(0, 49, 1, 0)", x.steer(0, 49, 1, 0), 3);
            due("call " + k + " behind it", call.on(x), NONE);
            due("when(0, 49, 1, 1)", x.when(0, 49, 1, 1), 1);
            due("call " + k + " behind it", call.on(x), NONE);
        }
    }

    private static UnsaidBallast saidAll(String s) {
        UnsaidBallast x = told(s);
        for (int i = 0; i < x.rule(0); i++) x.say(i);
        return x;
    }

    private static void bothToSay() {
        sentence = "both: Two THINGS (not SAID), DOWN at c soonest, of several the least. NONE: by none";
        Supplier<UnsaidBallast> two = () -> told("plain 4 0;plain 3 1;start 3 0;wind 0 8;");
        bounds("both(c, 1)", two, (x, c) -> x.both(c, 1), 0, NONE, 99, 25);
        bounds("both(12, what)", two, (x, what) -> x.both(12, what), 0, 1, 1, 3);
        Supplier<UnsaidBallast> ground = () -> six();
        leaves("both(0, 0), of several the least", ground, x -> x.both(0, 0), 1);
        leaves("both(0, 1), now", ground, x -> x.both(0, 1), 0);
        leaves("both(0, 0), one is left", () -> {
            UnsaidBallast x = told("plain 4 0;plain 3 1;");
            x.say(0);
            return x;
        }, x -> x.both(0, 0), NONE);
        leaves("both(0, 0), the last two are left", () -> {
            UnsaidBallast x = six();
            for (int i = 0; i < 4; i++) x.say(i);
            return x;
        }, x -> x.both(0, 0), 45);
        Supplier<UnsaidBallast> far = () -> told("plain 1 0;plain 1 0;start 60 0;");
        leaves("both(0, 1) behind 60", far, x -> x.both(0, 1), 60);
        leaves("both(1, 1) behind 60", far, x -> x.both(1, 1), NONE);
    }

    private static void whenToSay() {
        sentence = "when: The MINUTE (from now on, 0 to 30 more), behind n MINUTES (0 to 60), of several the least";
        bounds("when(i, 50, 9, 1)", BoundaryTest::six, (x, i) -> x.when(i, 50, 9, 1), 0, 50, 5, 50);
        bounds("when(0, c, 9, 1)", BoundaryTest::still, (x, c) -> x.when(0, c, 9, 1), 0, 50, 99, 49);
        bounds("when(0, 50, n, 0)", BoundaryTest::still, (x, n) -> x.when(0, 50, n, 0), 0, 0, 60, 0);
        bounds("when(0, 40, 9, what)", BoundaryTest::still, (x, what) -> x.when(0, 40, 9, what), 0, 0, 1, 10);
        // It hangs in a WIND that carries it off from 0 until it is said, and then comes down out of it.
        Supplier<UnsaidBallast> windy = () -> told("plain 9 0;plain 1 0;start 10 0;wind 1 5;rate 9;");
        leaves("when(0, 30, 60, 0), the last that may be", windy, x -> x.when(0, 30, 60, 0), 30);
        leaves("when(0, 30, 60, 1)", windy, x -> x.when(0, 30, 60, 1), 0);
        leaves("when(0, 31, 60, 0), 31 may not be", windy, x -> x.when(0, 31, 60, 0), 30);
        leaves("when(0, 31, 60, 1)", windy, x -> x.when(0, 31, 60, 1), 1);
        leaves("when(0, 0, 60, 0), now", windy, x -> x.when(0, 0, 60, 0), 0);
        leaves("when(0, 0, 60, 1)", windy, x -> x.when(0, 0, 60, 1), 0);
        leaves("when(0, 9, 9, 0): behind those that run", windy, x -> x.when(0, 9, 9, 0), 9);
        leaves("when(0, 99, 9, 0): the least of 9 to 30", windy, x -> x.when(0, 99, 9, 0), 9);
        leaves("when(0, 9, 0, 0), none runs", windy, x -> x.when(0, 9, 0, 0), 0);
        leaves("when(0, 9, 0, 1)", windy, x -> x.when(0, 9, 0, 1), 9);
        leaves("when(0, 30, 60, 0), SAID", () -> {
            UnsaidBallast x = windy.get();
            x.say(0);
            return x;
        }, x -> x.when(0, 30, 60, 0), 0);
        Supplier<UnsaidBallast> late = () -> {
            UnsaidBallast x = told("plain 9 0;plain 1 0;start 10 0;rate 9;");
            for (int n = 0; n < 33; n++) x.minutes(30);
            x.minutes(9);
            for (int k = 0; k < 8; k++) x.plan(k, 0);
            x.blow(1, 5);
            return x;
        };
        leaves("when(0, 30, 60, 0) from 999, THE PLAN is full", late, x -> x.when(0, 30, 60, 0), 30);
        leaves("when(0, 30, 60, 1)", late, x -> x.when(0, 30, 60, 1), 0);
    }

    private static void howToSteer() {
        sentence = "steer: The STRENGTH of a WIND, behind n MINUTES (0 to 60), of several the least";
        bounds("steer(k, 50, 1, 0)", BoundaryTest::still, (x, k) -> x.steer(k, 50, 1, 0), 0, 4, 4, 0);
        bounds("steer(0, c, 1, 0)", BoundaryTest::still, (x, c) -> x.steer(0, c, 1, 0), 0, 0, 99, 8);
        bounds("steer(0, c, 1, 1)", BoundaryTest::still, (x, c) -> x.steer(0, c, 1, 1), 0, 46, 99, 45);
        bounds("steer(0, 50, n, 0)", BoundaryTest::still, (x, n) -> x.steer(0, 50, n, 0), 0, 0, 60, 4);
        bounds("steer(0, 49, 1, what)", BoundaryTest::still, (x, what) -> x.steer(0, 49, 1, what), 0, 3, 1, 0);
        leaves("steer(0, 99, 60, 0): 5 is enough", BoundaryTest::still, x -> x.steer(0, 99, 60, 0), 5);
        leaves("steer(0, 0, 60, 0): 0 to 3 are", BoundaryTest::still, x -> x.steer(0, 0, 60, 0), 0);
        leaves("steer(0, 51, 2, 0): between 4 and 5", BoundaryTest::still, x -> x.steer(0, 51, 2, 0), 4);
        leaves("steer(0, 51, 2, 1)", BoundaryTest::still, x -> x.steer(0, 51, 2, 1), 1);
    }

    private static void whatToHush() {
        sentence = "hush: The SAYING that is to be left out, less than as it is. NONE: none";
        Supplier<UnsaidBallast> one = () -> {
            UnsaidBallast x = still();
            x.plan(0, 0);
            return x;
        };
        bounds("hush(n, 0)", one, (x, n) -> x.hush(n, 0), 0, NONE, 60, NONE);
        bounds("hush(9, what)", one, (x, what) -> x.hush(9, what), 0, NONE, 1, NONE);
        leaves("hush(60, 1) of a full PLAN", BoundaryTest::full, x -> x.hush(60, 1), NONE);
        leaves("hush(60, 1) of no PLAN", BoundaryTest::still, x -> x.hush(60, 1), NONE);
    }

    private static void whichToSwap() {
        sentence = "swap: Two SAYINGS, sooner than as it is, of several the least. NONE: by none";
        Supplier<UnsaidBallast> two = () -> swapping(0, 3, 20);
        bounds("swap(what)", two, (x, what) -> x.swap(what), 0, 1, 1, 4);
        leaves("swap(0) of one SAYING", () -> plannedFall(3), x -> x.swap(0), NONE);
        leaves("swap(0) of no PLAN", BoundaryTest::still, x -> x.swap(0), NONE);
        leaves("swap(0), sooner by one", () -> swapping(0, 3, 4), x -> x.swap(0), 1);
        leaves("swap(0), as soon", () -> swapping(0, 3, 3), x -> x.swap(0), NONE);
        leaves("swap(0), later", () -> swapping(0, 4, 3), x -> x.swap(0), NONE);
        leaves("swap(0) of the last two of eight", () -> swapping(6, 3, 20), x -> x.swap(0), 67);
        leaves("swap(1) of the last two of eight", () -> swapping(6, 3, 20), x -> x.swap(1), 4);
        leaves("falls() at 61", () -> swapping(0, 59, 60), x -> x.falls(), NONE);
        leaves("swap(0), never as it is", () -> swapping(0, 59, 60), x -> x.swap(0), 1);
        leaves("swap(1), never as it is", () -> swapping(0, 59, 60), x -> x.swap(1), 60);
        leaves("swap(0), never at all", () -> swapping(0, 60, 61), x -> x.swap(0), NONE);
    }

    /** What brings it down is said at the second MINUTE, what does nothing at the first. */
    private static UnsaidBallast swapping(int ahead, int first, int second) {
        UnsaidBallast x = told("plain 1 0;joke 1 0;start 1 0;");
        x.say(1);
        for (int k = 0; k < ahead; k++) x.plan(99, 1);
        x.plan(first, 1);
        x.plan(second, 0);
        return x;
    }

    private static void howHeavy() {
        sentence = "need: The least WEIGHT, behind n MINUTES (0 to 60) HEIGHT is h (0 to 60) or more. NONE: by none";
        bounds("need(i, 9, 0)", BoundaryTest::six, (x, i) -> x.need(i, 9, 0), 0, 1, 5, 1);
        bounds("need(0, n, 7)", BoundaryTest::still, (x, n) -> x.need(0, n, 7), 0, 1, 60, 4);
        bounds("need(0, 9, h)", BoundaryTest::still, (x, h) -> x.need(0, 9, h), 0, 1, 60, NONE);
        leaves("need(0, 1, 4): the least there is", BoundaryTest::still, x -> x.need(0, 1, 4), 1);
        leaves("need(0, 1, 5)", BoundaryTest::still, x -> x.need(0, 1, 5), 2);
        leaves("need(0, 1, 12): the greatest there is", BoundaryTest::still, x -> x.need(0, 1, 12), 9);
        leaves("need(0, 1, 13)", BoundaryTest::still, x -> x.need(0, 1, 13), NONE);
        leaves("need(0, 0, 8)", BoundaryTest::still, x -> x.need(0, 0, 8), NONE);
        Supplier<UnsaidBallast> high = () -> told("secret 9 0;secret 9 0;secret 9 0;secret 9 0;rate 9;start 60 0;");
        leaves("need(0, 1, 60)", high, x -> x.need(0, 1, 60), 3);
        leaves("need(0, 1, 57)", high, x -> x.need(0, 1, 57), 2);
        leaves("need(0, 1, 56)", high, x -> x.need(0, 1, 56), 1);
    }

    // ==== Promises 28 and 29: sayings that fail

    private static void byOdds() {
        sentence = "luck: v out of ten (0 to 10), behind n MINUTES (0 to 60), h (0 to 60) or less: 0, 1";
        Supplier<UnsaidBallast> one = () -> {
            UnsaidBallast x = still();
            x.plan(0, 0);
            return x;
        };
        bounds("luck(v, 1, 3, 0)", one, (x, v) -> x.luck(v, 1, 3, 0), 0, 1, 10, 0);
        bounds("luck(5, n, 3, 1)", one, (x, n) -> x.luck(5, n, 3, 1), 0, 1, 60, 2);
        bounds("luck(5, 1, h, 0)", one, (x, h) -> x.luck(5, 1, h, 0), 0, 0, 60, 1);
        bounds("luck(5, 1, 3, what)", one, (x, what) -> x.luck(5, 1, 3, what), 0, 1, 1, 2);
        leaves("luck(5, 1, 2, 0): less than that", one, x -> x.luck(5, 1, 2, 0), 0);
        leaves("luck(5, 1, 2, 1)", one, x -> x.luck(5, 1, 2, 1), 1);
        leaves("luck(5, 1, 6, 1)", one, x -> x.luck(5, 1, 6, 1), 2);
        leaves("luck(5, 1, 7, 1)", one, x -> x.luck(5, 1, 7, 1), 1);
        sentence = "mean: the mean of HEIGHT behind n MINUTES: 0, 1";
        bounds("mean(v, 1, 0)", one, (x, v) -> x.mean(v, 1, 0), 0, 3, 10, 7);
        bounds("mean(3, n, 0)", one, (x, n) -> x.mean(3, n, 0), 0, 7, 60, 21);
        bounds("mean(3, 1, what)", one, (x, what) -> x.mean(3, 1, what), 0, 21, 1, 5);
        sentence = "luck, mean: Each SAYING of THE PLAN (8 at most), by itself";
        Supplier<UnsaidBallast> eight = () -> {
            UnsaidBallast x = told("plain 1 0;start 1 0;");
            for (int k = 0; k < 8; k++) x.plan(k, 0);
            return x;
        };
        leaves("luck(3, 8, 0, 0): not all fail", eight, x -> x.luck(3, 8, 0, 0), 100000000 - 6561);
        leaves("luck(3, 8, 0, 1)", eight, x -> x.luck(3, 8, 0, 1), 100000000);
        leaves("mean(3, 8, 0): all fail", eight, x -> x.mean(3, 8, 0), 6561);
        leaves("mean(3, 8, 1)", eight, x -> x.mean(3, 8, 1), 100000000);
        leaves("mean(3, 0, 0)", eight, x -> x.mean(3, 0, 0), 1);
        leaves("mean(3, 0, 1)", eight, x -> x.mean(3, 0, 1), 1);
        leaves("mean(10, 60, 0) of the highest", () -> {
            UnsaidBallast x = told("secret 9 0;secret 9 0;secret 9 0;secret 9 0;start 60 0;");
            for (int k = 0; k < 8; k++) x.plan(k, k % 4);
            return x;
        }, x -> x.mean(10, 60, 0), 60);
    }

    // ==== Promises 30 to 35: from heights

    private static void whatIsSeen() {
        sentence = "see: behind n MINUTES (0 to 30) HEIGHT is h (0 to 60). FULL (6)";
        bounds("see(n, 7)", BoundaryTest::some, (x, n) -> x.see(n, 7), 0, 3, 30, 3);
        bounds("see(3, h)", BoundaryTest::some, (x, h) -> x.see(3, h), 0, 3, 60, 3);
        UnsaidBallast x = still();
        for (int n = 1; n <= 6; n++) due("see() the " + n + "th", x.see(n == 6 ? 30 : 0, n == 6 ? 60 : 7), n);
        due("see() the 7th", x.see(0, 7), FULL);
        due("count(0)", x.count(0), 6);
        due("weights(0): the 6th is SEEN too", x.weights(0), 0);
        due("forget(5)", x.forget(5), 6);
        due("weights(0)", x.weights(0), 1022);
        due("see() fits again", x.see(30, 7), 6);
        due("weights(0)", x.weights(0), 1 << 4);
        sentence = "forget: SEEN are the first n alone";
        bounds("forget(n)", BoundaryTest::some, (y, n) -> y.forget(n), 0, 2, 2, 2);
        bounds("forget(n)", BoundaryTest::full, (y, n) -> y.forget(n), 0, 6, 6, 6);
        leaves("forget(2) keeps all", BoundaryTest::some, y -> y.forget(2), 2);
    }

    private static Supplier<UnsaidBallast> stillSeen(int n, int h) {
        return () -> {
            UnsaidBallast x = still();
            x.see(n, h);
            return x;
        };
    }

    private static void toldFromHeights() {
        sentence = "kinds: KINDS of a THING (bits)";
        bounds("kinds(i)", BoundaryTest::six, (x, i) -> x.kinds(i), 0, 15, 5, 15);
        leaves("kinds(0), SEEN now", stillSeen(0, 7), x -> x.kinds(0), 15);
        leaves("kinds(0), SEEN behind 30", stillSeen(30, 7), x -> x.kinds(0), 11);
        leaves("kinds(0), SEEN behind 30", stillSeen(30, 11), x -> x.kinds(0), 4);
        leaves("kinds(0), it is never so", stillSeen(30, 12), x -> x.kinds(0), 0);
        sentence = "weights: WEIGHTS of a THING (bits 1 to 9)";
        bounds("weights(i)", BoundaryTest::six, (x, i) -> x.weights(i), 0, 1022, 5, 1022);
        leaves("weights(0), SEEN now", stillSeen(0, 7), x -> x.weights(0), 1022);
        leaves("weights(0): bit 1", stillSeen(30, 4), x -> x.weights(0), 2);
        leaves("weights(0): bit 9", stillSeen(30, 12), x -> x.weights(0), 512);
        leaves("weights(0): less than that", stillSeen(30, 3), x -> x.weights(0), 0);
        leaves("weights(0): more than that", stillSeen(30, 13), x -> x.weights(0), 0);
        sentence = "saids: how many sets (what 0), the least as bits (1; NONE: none)";
        bounds("saids(what)", BoundaryTest::six, (x, what) -> x.saids(what), 0, 64, 1, 0);
        leaves("saids(0): all must be SAID", stillSeen(30, 1), x -> x.saids(0), 1);
        leaves("saids(1): all must be SAID", stillSeen(30, 1), x -> x.saids(1), 3);
        leaves("saids(1): none", stillSeen(30, 0), x -> x.saids(1), NONE);
        leaves("saids(0): none", stillSeen(30, 0), x -> x.saids(0), 0);
    }

    private static void whenToLook() {
        sentence = "ask: Behind how many MINUTES (0 to 30), fewer than now, the first. NONE: none";
        bounds("ask(i, 1)", BoundaryTest::six, (x, i) -> x.ask(i, 1), 0, 3, 5, 1);
        bounds("ask(0, what)", BoundaryTest::still, (x, what) -> x.ask(0, what), 0, 1, 1, 1);
        leaves("ask(0, 0) at 30", () -> told("plain 1 0;start 38 0;"), x -> x.ask(0, 0), 30);
        leaves("ask(0, 1) at 30", () -> told("plain 1 0;start 38 0;"), x -> x.ask(0, 1), 8);
        leaves("ask(0, 0) at 31", () -> told("plain 1 0;start 39 0;"), x -> x.ask(0, 0), NONE);
        leaves("ask(0, 1) at 31", () -> told("plain 1 0;start 39 0;"), x -> x.ask(0, 1), NONE);
        leaves("ask(0, 0) of one WEIGHT", stillSeen(1, 7), x -> x.ask(0, 0), NONE);
        leaves("ask(0, 0) of WEIGHT 1 alone", stillSeen(1, 4), x -> x.ask(0, 0), NONE);
        leaves("ask(0, 0) of WEIGHT 9 alone", stillSeen(1, 12), x -> x.ask(0, 0), NONE);
        leaves("ask(0, 0) of no WEIGHT", stillSeen(1, 3), x -> x.ask(0, 0), NONE);
        Supplier<UnsaidBallast> two = () -> {
            UnsaidBallast x = told("plain 4 0;start 17 0;rate 9;");
            x.see(1, 8);
            return x;
        };
        leaves("ask(0, 0) of all but 9", two, x -> x.ask(0, 0), 2);
        leaves("ask(0, 1)", two, x -> x.ask(0, 1), 1);
    }

    // ==== Promise 36: by a seed

    private static void bySeeds() {
        sentence = "drift: n MINUTES (1 to 60); seed times 1103515245 and 12345 wraps around; STATE: there are no THINGS";
        bounds("drift(7, n, 0)", BoundaryTest::still, (x, n) -> x.drift(7, n, 0), 1, drifted(7, 1, 0), 60, drifted(7, 60, 0));
        bounds("drift(7, 1, what)", BoundaryTest::still, (x, what) -> x.drift(7, 1, what), 0, drifted(7, 1, 0), 1, 50);
        for (int seed : new int[] {MIN, MIN + 1, -1, 0, 1, 65535, 65536, MAX - 1, MAX}) {
            for (int n : new int[] {1, 2, 59, 60}) {
                leaves("drift(" + seed + ", " + n + ", 0)", BoundaryTest::still, x -> x.drift(seed, n, 0), drifted(seed, n, 0));
            }
        }
        leaves("drift(0, 1, 0) of one THING", () -> saidAll("plain 5 0;rate 9;"), x -> x.drift(0, 1, 0), 5);
        leaves("drift(0, 1, 0) of no THINGS", BoundaryTest::fresh, x -> x.drift(0, 1, 0), STATE);
        leaves("drift(0, 60, 1) of no THINGS", BoundaryTest::fresh, x -> x.drift(0, 60, 1), STATE);
    }

    /** still() by a seed, reckoned without a wrap-around: plain 4, tact 3 (1 when SAID), RATE 9. */
    private static int drifted(int seed, int n, int what) {
        java.math.BigInteger s = java.math.BigInteger.valueOf(seed);
        boolean[] said = new boolean[2];
        int height = 7;
        for (int t = 0; t < n; t++) {
            s = s.multiply(java.math.BigInteger.valueOf(1103515245)).add(java.math.BigInteger.valueOf(12345));
            int got = s.shiftRight(16).mod(java.math.BigInteger.valueOf(32768)).intValue();
            said[got % 2] = got / 8 % 2 == 1;
            height = (said[0] ? 0 : 4) + (said[1] ? 1 : 3);
        }
        return what == 0 ? height : 50;
    }

    // ==== Promises 37 to 43: images, sheets

    private static void imagesOfAll() {
        sentence = "keep: IMAGE k (0, 1): whether there was one (1, 0)";
        bounds("keep(k)", BoundaryTest::fresh, (x, k) -> x.keep(k), 0, 0, 1, 0);
        bounds("keep(k)", BoundaryTest::some, (x, k) -> x.keep(k), 0, 1, 1, 1);
        sentence = "back: All is as IMAGE k: MINUTE. STATE: there is none";
        bounds("back(k)", BoundaryTest::some, (x, k) -> x.back(k), 0, 0, 1, 2);
        bounds("back(k)", BoundaryTest::full, (x, k) -> x.back(k), 0, 999, 1, 999);
        bounds("back(k)", BoundaryTest::fresh, (x, k) -> x.back(k), 0, STATE, 1, STATE);
        for (int k = 0; k < 2; k++) {
            int at = k;
            leaves("back(" + k + ") of none", BoundaryTest::still, x -> x.back(at), STATE);
            leaves("back() behind keep()", BoundaryTest::full, x -> x.back(at), 999);
            UnsaidBallast x = still();
            due("keep()", x.keep(at), 0);
            due("back() of the other", x.back(1 - at), STATE);
            due("back()", x.back(at), 0);
            due("keep() again", x.keep(at), 1);
            due("count(1)", x.count(1), 1);
        }
        UnsaidBallast empty = fresh();
        empty.keep(1);
        fed(empty, "plain 1 0;").text();
        due("back(1): a text takes IMAGES away", empty.back(1), STATE);
        UnsaidBallast x = fresh();
        x.keep(0);
        x.blow(0, 8);
        x.minutes(3);
        due("back(0) of an empty one", x.back(0), 0);
        due("wind(0)", x.wind(0), 4);
        due("rule(3)", x.rule(3), 0);
    }

    private static void anImageIsFull() {
        sentence = "keep, back: THINGS, HEIGHT, PLACE, RATE, MINUTE, WINDS, THE PLAN, what was SEEN";
        UnsaidBallast x = full();
        due("keep(1)", x.keep(1), 1);
        for (int i = 0; i < 6; i++) {
            x.alter(i, 0, (i + 1) % 4);
            x.alter(i, 1, 9 - i);
            x.alter(i, 2, i % 2 == 0 ? 1 : 0);
            x.say(i);
        }
        for (int k = 0; k < 5; k++) x.blow(k, k);
        x.rate(9);
        x.cut(0);
        x.forget(0);
        x.plan(1, 1);
        x.see(1, 1);
        due("back(1)", x.back(1), 999);
        List<Long> now = new ArrayList<>();
        List<Long> then = new ArrayList<>();
        lookAtNow(x, now);
        lookAtNow(full(), then);
        due("all is as it was", now.equals(then) ? 1 : 0, 1);
    }

    private static void newSheets() {
        sentence = "sheet: A SHEET (0 to 3) is a new row (lane 0 to 2) of CELLS 0 (0 to 40). BAD: also n above 40; -10 - 4";
        bounds("sheet(k, 0, 3)", BoundaryTest::some, (x, k) -> x.sheet(k, 0, 3), 0, 1, 3, 1);
        bounds("sheet(0, lane, 3)", BoundaryTest::some, (x, lane) -> x.sheet(0, lane, 3), 0, 1, 2, 1);
        for (int lane = 0; lane < 3; lane++) {
            int l = lane;
            due("sheet(0, " + lane + ", 0)", some().sheet(0, lane, 0), 1);
            due("sheet(0, " + lane + ", 40)", some().sheet(0, lane, 40), 1);
            for (int n : new int[] {41, MAX}) leaves("sheet(0, " + lane + ", " + n + ")", BoundaryTest::some, x -> x.sheet(0, l, n), BAD);
            for (int n : new int[] {-1, -40, MIN}) {
                leaves("sheet(0, " + lane + ", " + n + ")", BoundaryTest::some, x -> x.sheet(0, l, n), -14);
                leaves("sheet(3, " + lane + ", " + n + "), nothing stays", BoundaryTest::some, x -> x.sheet(3, l, n), -14);
            }
            leaves("sheet(4, " + lane + ", -1)", BoundaryTest::some, x -> x.sheet(4, l, -1), BAD);
            leaves("sheet(-1, " + lane + ", 41)", BoundaryTest::some, x -> x.sheet(-1, l, 41), BAD);
        }
        leaves("sheet(0, 3, -1)", BoundaryTest::some, x -> x.sheet(0, 3, -1), BAD);
        leaves("sheet(0, -1, 3)", BoundaryTest::some, x -> x.sheet(0, -1, 3), BAD);
        UnsaidBallast x = six();
        x.sheet(1, 2, 40);
        for (int i = 0; i < 40; i++) x.lay(1, i, 5);
        x.sheet(1, 0, 3);
        x.sheet(1, 2, 40);
        x.read(1, 2, 0, 8);
        for (int k = 0; k < 8; k++) due("CELLS of a new row are 0", x.saying(k, 0) + x.saying(k, 1), 0);
    }

    private static void laidCells() {
        sentence = "lay: CELL i of a SHEET becomes v (its lowest bits). BAD: k; -10 less the FAULT: NULL, INDEX";
        bounds("lay(k, 0, 0)", BoundaryTest::full, (x, k) -> x.lay(k, 0, 0), 0, 1, 3, 1);
        int[] sizes = {7, 40, 0};
        for (int k = 0; k < 3; k++) {
            int at = k;
            int size = sizes[k];
            if (size > 0) {
                due("lay(" + k + ", 0, 1)", some().lay(k, 0, 1), 1);
                due("lay(" + k + ", " + (size - 1) + ", 1)", some().lay(k, size - 1, 1), 1);
            }
            for (int i : new int[] {-1, size, size + 1, MIN, MAX}) {
                leaves("lay(" + k + ", " + i + ", 1)", BoundaryTest::some, x -> x.lay(at, i, 1), -12);
            }
        }
        for (int i : new int[] {-1, 0, 40, MIN, MAX}) leaves("lay(3, " + i + ", 1)", BoundaryTest::some, x -> x.lay(3, i, 1), -11);
        leaves("lay(-1, 99, 1)", BoundaryTest::some, x -> x.lay(-1, 99, 1), BAD);
        int[][] taken = {{0, 99, 99}, {0, 256, 0}, {0, 355, 99}, {0, -157, 99}, {0, MIN, 0}, {0, 65536, 0},
            {1, 65536, 0}, {1, 65635, 99}, {1, -65437, 99}, {1, MIN, 0}, {2, 99, 99}, {2, 0, 0}};
        for (int[] t : taken) {
            UnsaidBallast x = six();
            x.sheet(3, t[0], 2);
            due("lay() of " + t[1], x.lay(3, 0, t[1]), 1);
            due("read() of it", x.read(3, t[0], 0, 1), 1);
            due("saying(0, 0) of it", x.saying(0, 0), t[2]);
        }
        int[][] refused = {{0, 100}, {0, 127}, {0, 128}, {0, 255}, {0, -1}, {0, MAX}, {1, 100}, {1, 256}, {1, 355}, {1, 32768},
            {1, 65535}, {1, MAX}, {2, 100}, {2, 256}, {2, 65536}, {2, 65635}, {2, MIN}, {2, MAX}};
        for (int[] t : refused) {
            UnsaidBallast x = six();
            x.sheet(3, t[0], 2);
            due("lay() of " + t[1], x.lay(3, 0, t[1]), 1);
            due("read() of it", x.read(3, t[0], 0, 1), -20);
            due("rule(7)", x.rule(7), 0);
        }
    }

    private static void readSheets() {
        sentence = "read: n (0 to 20) times. BAD: k, lane, n";
        Supplier<UnsaidBallast> one = () -> {
            UnsaidBallast x = six();
            for (int k = 0; k < 4; k++) x.sheet(k, k % 3, 4);
            return x;
        };
        bounds("read(k, 0, 0, 1)", one, (x, k) -> x.read(k, 0, 0, 1), 0, 1, 3, 1);
        bounds("read(1, lane, 0, 1)", one, (x, lane) -> x.read(1, lane, 0, 1), 0, 0, 2, 0);
        bounds("read(0, 0, 0, n)", one, (x, n) -> x.read(0, 0, 0, n), 0, 0, 20, 2);
        leaves("read(4, 3, 0, 21)", one, x -> x.read(4, 3, 0, 21), BAD);
        sentence = "read: What the machine refuses: those that were whole ahead came";
        int[][] torn = {{0, 2, 2, 0}, {0, 3, 2, 2}, {0, 20, 2, 2}, {1, 1, 1, 0}, {1, 2, 1, 2}, {2, 1, 1, 0}, {2, 2, 1, 2},
            {3, 1, 0, 2}, {4, 1, 0, 2}, {-1, 1, 0, 2}, {-2, 1, 0, 2}, {-2, 2, 0, 2}, {MIN, 20, 0, 2}, {MAX, 20, 0, 2}, {MAX - 1, 1, 0, 2}};
        for (int[] t : torn) {
            UnsaidBallast x = one.get();
            due("read(2, 2, " + t[0] + ", " + t[1] + ")", x.read(2, 2, t[0], t[1]), t[2]);
            due("torn()", x.torn(), t[3]);
            due("rule(7)", x.rule(7), t[2]);
        }
        UnsaidBallast none = one.get();
        none.sheet(1, 1, 0);
        due("read() of no CELLS", none.read(1, 1, 0, 1), 0);
        due("torn(): INDEX", none.torn(), 2);
        sentence = "read: NULL (nothing), CAST (another lane), INDEX";
        for (int f : new int[] {0, -1, 40, MIN, MAX}) {
            UnsaidBallast x = some();
            due("read(3, 0, " + f + ", 1) of nothing", x.read(3, 0, f, 1), 0);
            due("torn(): NULL", x.torn(), 1);
            due("read(0, 2, " + f + ", 20) of another lane", x.read(0, 2, f, 20), 0);
            due("torn(): CAST", x.torn(), 3);
            due("read(2, 2, " + f + ", 1)", x.read(2, 2, f, 1), 0);
            due("torn(): INDEX", x.torn(), 2);
            due("rule(7): none came", x.rule(7), 3);
        }
    }

    private static void refusedReads() {
        sentence = "read: -20 less i: the i-th, whole, is refused by plan() (in whichever way): then none came";
        for (int i = 0; i < 5; i++) {
            int at = i;
            int[][] cells = {{2 * i, 100}, {2 * i, -1}, {2 * i + 1, 6}, {2 * i + 1, -1}};
            for (int[] c : cells) {
                Supplier<UnsaidBallast> made = () -> {
                    UnsaidBallast x = six();
                    x.plan(7, 1);
                    x.sheet(0, 0, 40);
                    x.read(1, 0, 0, 1);
                    x.lay(0, c[0], c[1]);
                    return x;
                };
                leaves("read(0, 0, 0, 20), the " + i + "th is BAD", made, x -> x.read(0, 0, 0, 20), -20 - i);
                due("read(0, 0, 0, " + i + "): those ahead", made.get().read(0, 0, 0, at), i);
            }
        }
        for (int free = 0; free <= 8; free++) {
            int room = free;
            Supplier<UnsaidBallast> made = () -> {
                UnsaidBallast x = full();
                x.cut(8 - room);
                return x;
            };
            due("read() of as many as fit", made.get().read(0, 0, 0, free), free);
            leaves("read() of one more is FULL", made, x -> x.read(0, 0, 0, room + 1), -20 - free);
            leaves("read() of 20 is FULL", made, x -> x.read(0, 0, 0, 20), -20 - free);
        }
        sentence = "read: the first met";
        UnsaidBallast torn = full();
        torn.cut(7);
        due("read() of the last, torn ahead of FULL", torn.read(0, 0, 38, 2), 1);
        due("torn()", torn.torn(), 2);
        due("rule(7)", torn.rule(7), 8);
        due("read() of the last is FULL ahead of what is torn", torn.read(0, 0, 38, 2), -20);
        due("read() torn at once, THE PLAN is full", torn.read(0, 0, 39, 2), 0);
        due("torn()", torn.torn(), 2);
        UnsaidBallast half = six();
        half.sheet(0, 0, 3);
        half.lay(0, 2, 100);
        due("read(): what is not whole is not refused by plan()", half.read(0, 0, 0, 2), 1);
        due("torn()", half.torn(), 2);
    }

    private static void whatWasTorn() {
        sentence = "torn: The FAULT of the latest read() that came to an end; 0";
        due("torn() of none", fresh().torn(), 0);
        UnsaidBallast x = some();
        due("torn(): CAST", x.torn(), 3);
        x.read(4, 0, 0, 1);
        x.read(0, 3, 0, 1);
        x.read(0, 0, 0, 21);
        due("torn(): behind what is BAD", x.torn(), 3);
        x.lay(0, 0, 100);
        due("read() that is refused", x.read(0, 0, 0, 1), -20);
        due("torn(): behind what is refused", x.torn(), 3);
        x.lay(3, 0, 0);
        x.lay(0, 40, 0);
        x.sheet(0, 0, -1);
        due("torn(): FAULTS of lay(), sheet() are not of read()", x.torn(), 3);
        due("read() of none", x.read(0, 0, 0, 0), 0);
        due("torn()", x.torn(), 0);
        x.read(3, 0, 0, 1);
        due("torn(): NULL", x.torn(), 1);
        x.read(0, 0, 2, 1);
        due("torn(): behind a sound one", x.torn(), 0);
    }

    private static void counts() {
        sentence = "count: 0 to 5; 3 CELLS of SHEET 0 (NONE: nothing)";
        bounds("count(what)", BoundaryTest::some, (x, what) -> x.count(what), 0, 2, 5, 13);
        int[] empty = {0, 0, 0, NONE, 0, 0};
        int[] most = {6, 2, 160, 40, 9, 12};
        for (int what = 0; what < 6; what++) {
            int w = what;
            leaves("count(" + what + ") of a new object", BoundaryTest::fresh, x -> x.count(w), empty[what]);
            leaves("count(" + what + ") of a full one", BoundaryTest::full, x -> x.count(w), most[what]);
        }
        UnsaidBallast x = fresh();
        x.sheet(1, 0, 9);
        due("count(3): SHEET 0 is nothing still", x.count(3), NONE);
        x.sheet(0, 0, 0);
        due("count(3): no CELLS", x.count(3), 0);
        UnsaidBallast nine = told("secret9 0;secret9 0;secret9 0;joke9 0;tact9 0;plain9 0;");
        due("count(4): all are his", nine.count(4), 54);
        due("count(5): none is hers", nine.count(5), 0);
        for (int i = 0; i < 6; i++) nine.say(i);
        due("count(4): all are SAID", nine.count(4), 0);
        for (int i = 0; i < 6; i++) nine.alter(i, 2, 1);
        for (int i = 0; i < 6; i++) nine.take(i);
        due("count(5): all are hers", nine.count(5), 54);
        due("count(4): none is his", nine.count(4), 0);
    }

    public static void main(String[] args) {
        theFirstAnswerThatFits();
        unseenIsNone();
        noSuchOne();
        fractions();
        sixThingsAtMost();
        asAtFirst();
        liftsByKind();
        liftIsBounded();
        tapeOf160Bytes();
        tokensAsLongAsMayBe();
        linesOfAText();
        numbersOfAText();
        toldTwiceOrOneTooMany();
        theFirstFaultMet();
        aTakenTextTellsAll();
        heightGoesTowardsLift();
        placeGoesByTheWind();
        theWindThatBlowsThere();
        sayingsOfThisMinute();
        feedAndEnd();
        textAndFault();
        whatIsTold();
        whatIsAltered();
        whatIsSaid();
        whatIsPlanned();
        minutesThatRun();
        minutesAsTheyWouldBe();
        howSoonDown();
        bestToSay();
        noneBehindSome();
        bothToSay();
        whenToSay();
        howToSteer();
        whatToHush();
        whichToSwap();
        howHeavy();
        byOdds();
        whatIsSeen();
        toldFromHeights();
        whenToLook();
        bySeeds();
        imagesOfAll();
        anImageIsFull();
        newSheets();
        laidCells();
        readSheets();
        refusedReads();
        whatWasTorn();
        counts();
        System.out.println("boundaries: " + right + " are as due, " + wrong + " are not");
        if (wrong != 0) System.exit(1);
    }
}
