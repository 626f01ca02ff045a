/** Each promise of the document by itself: what it is for, the edges it names, and what it refuses. */
public final class PromiseTest {
    private static final int BAD = -1, STATE = -2, FULL = -3, NONE = -4;
    private static final int MIN = Integer.MIN_VALUE, MAX = Integer.MAX_VALUE;
    private static int wrong = 0, right = 0;
    private static int promise = 0;

    private static void due(String call, long got, long want) {
        if (got == want) {
            right++;
            return;
        }
        wrong++;
        System.out.println("promise " + promise + ": " + call + " answered " + got + ", due is " + want);
    }

    private static void feedAll(UnsaidBallast x, String s) {
        for (int p = 0; p < s.length(); p++) x.feed(s.charAt(p));
    }

    private static int tell(UnsaidBallast x, String s) {
        feedAll(x, s);
        return x.text();
    }

    private static UnsaidBallast told(String s) {
        UnsaidBallast x = new UnsaidBallast();
        if (tell(x, s) < 0) due("text() of a sound text: " + s, -1, 0);
        return x;
    }

    private static void faulty(String s, int place, int fault) {
        UnsaidBallast x = told("rate 7;joke 3 1;");
        due("text() of \"" + s + "\"", tell(x, s), -10 - place);
        due("fault() of \"" + s + "\"", x.fault(), fault);
        due("count(2) behind it", x.count(2), 0);
        due("rule(6) behind it", x.rule(6), 7);
        due("thing(0, 0) behind it", x.thing(0, 0), 3);
        due("rule(0) behind it", x.rule(0), 1);
    }

    private static void sound(String s, int lines) {
        UnsaidBallast x = new UnsaidBallast();
        tell(x, "!");
        due("text() of \"" + s + "\"", tell(x, s), lines);
        due("fault() of \"" + s + "\"", x.fault(), 0);
        due("count(2) behind it", x.count(2), 0);
    }

    private static void aNewObject() {
        promise = 1;
        UnsaidBallast x = new UnsaidBallast();
        int[] rules = {0, 0, 0, 0, 0, 0, 1, 0};
        for (int what = 0; what < 8; what++) due("rule(" + what + ")", x.rule(what), rules[what]);
        for (int k = 0; k < 5; k++) due("wind(" + k + ")", x.wind(k), 4);
        int[] counts = {0, 0, 0, NONE, 0, 0};
        for (int what = 0; what < 6; what++) due("count(" + what + ")", x.count(what), counts[what]);
        for (int k = 0; k < 4; k++) due("lay(" + k + ", 0, 0)", x.lay(k, 0, 0), -11);
        for (int k = 0; k < 2; k++) due("back(" + k + ")", x.back(k), STATE);
        due("thing(0, 0)", x.thing(0, 0), BAD);
        due("fault()", x.fault(), 0);
        due("torn()", x.torn(), 0);
    }

    private static void feedIt() {
        promise = 2;
        UnsaidBallast x = new UnsaidBallast();
        due("feed(0)", x.feed(0), 1);
        due("feed(127)", x.feed(127), 2);
        due("feed(-1)", x.feed(-1), BAD);
        due("feed(128)", x.feed(128), BAD);
        due("feed(MIN)", x.feed(MIN), BAD);
        due("feed(MAX)", x.feed(MAX), BAD);
        due("count(2)", x.count(2), 2);
        for (int n = 3; n <= 160; n++) due("feed(32)", x.feed(32), n);
        due("feed(32), the 161st", x.feed(32), FULL);
        due("feed(128), the 161st", x.feed(128), BAD);
        due("count(2)", x.count(2), 160);
    }

    private static void endIt() {
        promise = 3;
        UnsaidBallast x = new UnsaidBallast();
        due("end(0) of nothing", x.end(0), 0);
        due("end(1) of nothing", x.end(1), BAD);
        feedAll(x, "rate 5;rate");
        due("end(12)", x.end(12), BAD);
        due("end(-1)", x.end(-1), BAD);
        due("end(MIN)", x.end(MIN), BAD);
        due("end(MAX)", x.end(MAX), BAD);
        due("count(2)", x.count(2), 11);
        due("end(11)", x.end(11), 11);
        due("end(7)", x.end(7), 11);
        due("count(2)", x.count(2), 7);
        due("feed(' ')", x.feed(' '), 8);
        due("text()", x.text(), 1);
        due("rule(6)", x.rule(6), 5);
        feedAll(x, "abc");
        due("end(0)", x.end(0), 3);
        due("text()", x.text(), 0);
    }

    private static void textsThatAreTaken() {
        promise = 4;
        sound("", 0);
        sound("    ", 0);
        sound("plain 1 0;", 1);
        sound("plain1 0;tact9 1;secret 5 0 ; joke 2 1;", 4);
        sound("plain 01 00;", 1);
        sound("wind 0 0;wind 1 8;wind 2 4;wind 3 4;wind 4 4;", 5);
        sound("rate 1;", 1);
        sound("rate 9;start 60 99;", 2);
        sound("start 0 0;", 1);
        sound("  rate  09  ;  ", 1);
        sound("plain 1 0;plain 1 0;plain 1 0;plain 1 0;plain 1 0;plain 1 0;rate 2;", 7);

        UnsaidBallast x = told("plain 1 0;tact 9 1;secret 5 0;joke 2 1;wind 3 7;wind 0 0;rate 6;start 42 17;");
        int[][] things = {{0, 1, 0}, {1, 9, 1}, {2, 5, 0}, {3, 2, 1}};
        for (int i = 0; i < 4; i++) {
            for (int what = 0; what < 3; what++) due("thing(" + i + ", " + what + ")", x.thing(i, what), things[i][what]);
        }
        int[] winds = {0, 4, 4, 7, 4};
        for (int k = 0; k < 5; k++) due("wind(" + k + ")", x.wind(k), winds[k]);
        int[] rules = {4, 0, 42, 17, 22, 0, 6, 0};
        for (int what = 0; what < 8; what++) due("rule(" + what + ")", x.rule(what), rules[what]);
    }

    private static void aTextTellsAll() {
        promise = 4;
        UnsaidBallast x = told("plain 1 0;tact 9 1;wind 3 7;rate 6;start 42 17;");
        x.say(0);
        x.plan(3, 1);
        x.minutes(2);
        x.see(3, 4);
        x.keep(0);
        x.keep(1);
        x.sheet(0, 0, 3);
        x.read(1, 0, 0, 1);
        due("runs(9, 4)", x.runs(9, 4), 3);
        tell(x, "plain 1 0;!");
        int[] before = {2, 2, 30, 23, 9, 1, 6, 1};
        for (int what = 0; what < 8; what++) due("a refused text leaves rule(" + what + ")", x.rule(what), before[what]);
        due("a refused text leaves what is SEEN", x.count(0), 1);
        due("a refused text leaves IMAGES", x.count(1), 2);
        due("runs(9, 4)", x.runs(9, 4), 3);
        due("text() of one THING", tell(x, "secret 4 1;"), 1);
        int[] after = {1, 0, 0, 0, 8, 0, 1, 0};
        for (int what = 0; what < 8; what++) due("a text tells rule(" + what + ")", x.rule(what), after[what]);
        for (int k = 0; k < 5; k++) due("a text tells wind(" + k + ")", x.wind(k), 4);
        due("nothing is SEEN", x.count(0), 0);
        due("IMAGES are gone", x.count(1), 0);
        due("back(0)", x.back(0), STATE);
        due("back(1)", x.back(1), STATE);
        due("SHEETS stay", x.count(3), 3);
        due("torn() stays", x.torn(), 1);
        due("what was told once may be told anew", tell(x, "wind 3 1;rate 2;start 3 4;"), 3);
        due("and again", tell(x, "wind 3 1;rate 2;start 3 4;"), 3);
        due("an empty text", x.text(), 0);
        due("no THINGS then", x.rule(0), 0);
    }

    private static void faults() {
        promise = 5;
        faulty("!", 0, 1);
        faulty("  A", 2, 1);
        faulty("plain\t1 0;", 5, 1);
        faulty("\0", 0, 1);
        faulty("`", 0, 1);
        faulty("{", 0, 1);
        faulty("/", 0, 1);
        faulty(":", 0, 1);
        faulty("plain:1 0;", 5, 1);
        faulty("123", 0, 1);
        faulty("plain 123 0;", 6, 1);
        faulty("plain 001 0;", 6, 1);
        faulty("plain 1 1234567", 8, 1);
        faulty("plain 1 0!", 9, 1);
        faulty("rate 1;!", 7, 1);
        faulty("rate 1 123", 7, 1);
        faulty("rate 1 123;", 7, 1);
        faulty("start 1 !;", 8, 1);
        faulty("wind 1 100;", 7, 1);
        faulty("plai 1 0;", 0, 2);
        faulty("plains 1 0;", 0, 2);
        faulty(" plainplain 1 0;", 1, 2);
        faulty("blain 1 0;", 0, 2);
        faulty("plaim 1 0;", 0, 2);
        faulty("stare 1 0;", 0, 2);
        faulty("1", 0, 2);
        faulty(";", 0, 2);
        faulty("rate 1;;", 7, 2);
        faulty("plain", 5, 2);
        faulty("plain   ", 8, 2);
        faulty("plain 1", 7, 2);
        faulty("plain 1 0", 9, 2);
        faulty("plain 1 0  ", 11, 2);
        faulty("plain ; ", 6, 2);
        faulty("plain tact", 6, 2);
        faulty("plain 1;", 7, 2);
        faulty("plain 1 tact", 8, 2);
        faulty("plain 1 0 0;", 10, 2);
        faulty("plain 1 0 plain 1 0;", 10, 2);
        faulty("rate 1 1;", 7, 2);
        faulty("rate;", 4, 2);
        faulty("start 1;", 7, 2);
        faulty("wind 1;", 6, 2);
        faulty("plain 0 0;", 6, 3);
        faulty("plain 10 0;", 6, 3);
        faulty("plain 0 123;", 6, 3);
        faulty("plain 0 !", 6, 3);
        faulty("tact 1 2;", 7, 3);
        faulty("secret 1 2!", 9, 3);
        faulty("joke 99 0;", 5, 3);
        faulty("rate 0;", 5, 3);
        faulty("rate 10;", 5, 3);
        faulty("start 61 0;", 6, 3);
        faulty("wind 5 0;", 5, 3);
        faulty("wind 0 9;", 7, 3);
        faulty("rate 1;rate !", 7, 4);
        faulty("rate 1;  rate", 9, 4);
        faulty("start 0 0;start 1 1;", 10, 4);
        faulty("start 0 0; start !", 11, 4);
        faulty("wind 1 1;wind 1 !", 14, 4);
        faulty("wind 1 1;wind 2 2;wind 1 1;", 23, 4);
        faulty("wind 1 1;wind 5 1;", 14, 3);
        String six = "plain 1 0;plain 1 0;plain 1 0;plain 1 0;plain 1 0;plain 1 0;";
        faulty(six + "plain !", 60, 5);
        faulty(six + "joke", 60, 5);
        faulty(six + " secret 0 0;", 61, 5);
        faulty(six + "tact 1 0;", 60, 5);
        faulty(six + "jok", 60, 2);
        faulty("rate 1;rate 1;" + "!", 7, 4);

        UnsaidBallast x = new UnsaidBallast();
        tell(x, "rate 0;");
        due("fault()", x.fault(), 3);
        due("fault() again", x.fault(), 3);
        x.feed('!');
        due("fault() is of the latest text()", x.fault(), 3);
        x.end(0);
        x.text();
        due("fault() of a sound text", x.fault(), 0);

        UnsaidBallast full = new UnsaidBallast();
        for (int n = 0; n < 160; n++) full.feed(n < 4 ? "rate".charAt(n) : ' ');
        due("text() of a full TAPE", full.text(), -10 - 160);
        due("fault()", full.fault(), 2);
    }

    private static void ruleIt() {
        promise = 6;
        UnsaidBallast x = told("plain 1 0;tact 9 1;secret 5 0;rate 6;start 42 17;");
        x.say(2);
        x.say(0);
        x.plan(0, 1);
        x.plan(99, 1);
        x.minutes(1);
        int[] rules = {3, 1, 36, 17, 4, 7, 6, 2};
        for (int what = 0; what < 8; what++) due("rule(" + what + ")", x.rule(what), rules[what]);
        for (int what : new int[] {-1, 8, MIN, MAX}) due("rule(" + what + ")", x.rule(what), BAD);
        UnsaidBallast heavy = told("secret 9 0;secret 9 0;secret 9 0;secret 6 0;");
        due("rule(4) at the most", heavy.rule(4), 60);
        heavy.alter(3, 1, 2);
        due("rule(4)", heavy.rule(4), 58);
        UnsaidBallast light = told("joke 9 0;plain 3 0;");
        due("say(0)", light.say(0), 0);
        due("rule(4) at the least", light.rule(4), 0);
    }

    private static void thingIt() {
        promise = 7;
        UnsaidBallast x = told("plain 7 0;tact 7 1;secret 7 0;joke 7 1;");
        int[][] unsaid = {{0, 7, 0, 0, 27}, {1, 7, 1, 0, 27}, {2, 7, 0, 0, 34}, {3, 7, 1, 0, 27}};
        int[][] said = {{0, 7, 0, 1, 20}, {1, 7, 1, 1, 23}, {2, 7, 0, 1, 20}, {3, 7, 1, 1, 17}};
        for (int i = 0; i < 4; i++) {
            for (int what = 0; what < 5; what++) due("thing(" + i + ", " + what + ")", x.thing(i, what), unsaid[i][what]);
            x.say(i);
            for (int what = 0; what < 5; what++) due("thing(" + i + ", " + what + ")", x.thing(i, what), said[i][what]);
            x.take(i);
        }
        x.alter(3, 1, 1);
        x.say(3);
        due("thing(3, 4) of weight 1, said", x.thing(3, 4), 20);
        for (int i : new int[] {-1, 4, MIN, MAX}) due("thing(" + i + ", 0)", x.thing(i, 0), BAD);
        for (int what : new int[] {-1, 5, MIN, MAX}) due("thing(0, " + what + ")", x.thing(0, what), BAD);
    }

    private static void windIt() {
        promise = 8;
        UnsaidBallast x = told("wind 0 1;wind 1 2;wind 2 3;wind 3 0;wind 4 8;");
        int[] winds = {1, 2, 3, 0, 8};
        for (int k = 0; k < 5; k++) due("wind(" + k + ")", x.wind(k), winds[k]);
        for (int k : new int[] {-1, 5, MIN, MAX}) due("wind(" + k + ")", x.wind(k), BAD);
    }

    private static void sayingIt() {
        promise = 9;
        UnsaidBallast x = told("plain 7 0;tact 7 1;");
        due("saying(0, 0) of none", x.saying(0, 0), BAD);
        x.plan(99, 1);
        x.plan(0, 0);
        due("saying(0, 0)", x.saying(0, 0), 99);
        due("saying(0, 1)", x.saying(0, 1), 1);
        due("saying(1, 0)", x.saying(1, 0), 0);
        due("saying(1, 1)", x.saying(1, 1), 0);
        for (int k : new int[] {-1, 2, MIN, MAX}) due("saying(" + k + ", 0)", x.saying(k, 0), BAD);
        for (int what : new int[] {-1, 2, MIN, MAX}) due("saying(0, " + what + ")", x.saying(0, what), BAD);
    }

    private static void alterIt() {
        promise = 10;
        UnsaidBallast x = told("plain 7 0;tact 6 1;");
        due("alter(1, 0, 3)", x.alter(1, 0, 3), 1);
        due("alter(1, 0, 0)", x.alter(1, 0, 0), 3);
        due("alter(1, 1, 9)", x.alter(1, 1, 9), 6);
        due("alter(1, 1, 1)", x.alter(1, 1, 1), 9);
        due("alter(1, 2, 0)", x.alter(1, 2, 0), 1);
        due("alter(1, 2, 1)", x.alter(1, 2, 1), 0);
        int[][] refused = {{-1, 0, 0}, {2, 0, 0}, {0, -1, 1}, {0, 3, 1}, {0, 0, -1}, {0, 0, 4}, {0, 1, 0}, {0, 1, 10},
            {0, 2, -1}, {0, 2, 2}, {MIN, 0, 0}, {MAX, 0, 0}, {0, MIN, 1}, {0, MAX, 1}, {0, 1, MAX}, {0, 1, MIN}};
        for (int[] a : refused) due("alter(" + a[0] + ", " + a[1] + ", " + a[2] + ")", x.alter(a[0], a[1], a[2]), BAD);
        int[][] things = {{0, 7, 0}, {0, 1, 1}};
        for (int i = 0; i < 2; i++) {
            for (int what = 0; what < 3; what++) due("thing(" + i + ", " + what + ")", x.thing(i, what), things[i][what]);
        }
        x.say(0);
        x.alter(0, 0, 1);
        due("what is SAID stays so", x.thing(0, 3), 1);
        due("and lifts by its new KIND", x.thing(0, 4), 23);
    }

    private static void blowIt() {
        promise = 11;
        UnsaidBallast x = new UnsaidBallast();
        due("blow(0, 0)", x.blow(0, 0), 4);
        due("blow(0, 8)", x.blow(0, 8), 0);
        due("blow(4, 3)", x.blow(4, 3), 4);
        int[][] refused = {{-1, 0}, {5, 0}, {0, -1}, {0, 9}, {MIN, 0}, {MAX, 0}, {0, MIN}, {0, MAX}};
        for (int[] a : refused) due("blow(" + a[0] + ", " + a[1] + ")", x.blow(a[0], a[1]), BAD);
        int[] winds = {8, 4, 4, 4, 3};
        for (int k = 0; k < 5; k++) due("wind(" + k + ")", x.wind(k), winds[k]);
    }

    private static void rateIt() {
        promise = 12;
        UnsaidBallast x = new UnsaidBallast();
        due("rate(9)", x.rate(9), 1);
        for (int v : new int[] {0, 10, -1, MIN, MAX}) due("rate(" + v + ")", x.rate(v), BAD);
        due("rule(6)", x.rule(6), 9);
        due("rate(1)", x.rate(1), 9);
        due("rule(6)", x.rule(6), 1);
    }

    private static void sayIt() {
        promise = 13;
        UnsaidBallast x = told("plain 7 0;tact 7 1;secret 4 0;joke 5 1;");
        due("rule(4)", x.rule(4), 27);
        due("say(3)", x.say(3), 20);
        due("say(3) again", x.say(3), STATE);
        due("say(0)", x.say(0), 13);
        due("say(1)", x.say(1), 9);
        due("say(2)", x.say(2), 1);
        due("rule(5)", x.rule(5), 15);
        due("rule(2): nothing has run", x.rule(2), 0);
        for (int i : new int[] {-1, 4, MIN, MAX}) due("say(" + i + ")", x.say(i), BAD);
        due("rule(5)", x.rule(5), 15);
    }

    private static void takeIt() {
        promise = 14;
        UnsaidBallast x = told("plain 7 0;tact 7 1;");
        due("take(0), not SAID", x.take(0), STATE);
        x.say(0);
        x.say(1);
        due("take(0)", x.take(0), 10);
        due("take(0) again", x.take(0), STATE);
        due("rule(5)", x.rule(5), 2);
        due("take(1)", x.take(1), 14);
        for (int i : new int[] {-1, 2, MIN, MAX}) due("take(" + i + ")", x.take(i), BAD);
        due("rule(5)", x.rule(5), 0);
    }

    private static void planIt() {
        promise = 15;
        UnsaidBallast x = told("plain 7 0;tact 7 1;");
        int[][] refused = {{-1, 0}, {100, 0}, {0, -1}, {0, 2}, {MIN, 0}, {MAX, 0}, {0, MIN}, {0, MAX}};
        for (int[] a : refused) due("plan(" + a[0] + ", " + a[1] + ")", x.plan(a[0], a[1]), BAD);
        due("plan(0, 0)", x.plan(0, 0), 1);
        due("plan(99, 1)", x.plan(99, 1), 2);
        for (int n = 3; n <= 8; n++) due("plan(5, 1)", x.plan(5, 1), n);
        due("plan(5, 1), the 9th", x.plan(5, 1), FULL);
        due("plan(100, 1), the 9th", x.plan(100, 1), BAD);
        due("plan(5, 2), the 9th", x.plan(5, 2), BAD);
        due("rule(7)", x.rule(7), 8);
        due("plan(0, 0) of no THINGS", new UnsaidBallast().plan(0, 0), BAD);
    }

    private static void cutIt() {
        promise = 16;
        UnsaidBallast x = told("plain 7 0;tact 7 1;");
        x.plan(3, 0);
        x.plan(4, 1);
        x.plan(5, 0);
        for (int n : new int[] {-1, 4, MIN, MAX}) due("cut(" + n + ")", x.cut(n), BAD);
        due("cut(3)", x.cut(3), 3);
        due("cut(1)", x.cut(1), 3);
        due("rule(7)", x.rule(7), 1);
        due("saying(0, 0)", x.saying(0, 0), 3);
        due("saying(1, 0)", x.saying(1, 0), BAD);
        due("plan(9, 1)", x.plan(9, 1), 2);
        due("saying(1, 0)", x.saying(1, 0), 9);
        due("cut(0)", x.cut(0), 2);
        due("cut(0)", x.cut(0), 0);
    }

    private static void minutesRun() {
        promise = 17;
        UnsaidBallast x = told("plain 9 0;tact 9 1;secret 3 0;rate 5;start 2 50;wind 0 3;wind 1 6;wind 2 8;");
        x.plan(3, 0);
        x.plan(3, 2);
        x.plan(1, 2);
        x.plan(0, 0);
        x.cut(3);
        due("minutes(0)", x.minutes(0), 2);
        due("rule(1)", x.rule(1), 0);
        due("minutes(1): 24 draws, 5 yards at most", x.minutes(1), 7);
        due("rule(3): by the WIND at 7", x.rule(3), 49);
        due("minutes(1): the secret is SAID, 18 draws", x.minutes(1), 12);
        due("rule(3): by the WIND at 12", x.rule(3), 51);
        due("rule(5)", x.rule(5), 4);
        due("minutes(1)", x.minutes(1), 17);
        due("rule(3)", x.rule(3), 53);
        due("minutes(1): 9 draws", x.minutes(1), 12);
        due("rule(5)", x.rule(5), 5);
        due("minutes(2)", x.minutes(2), 9);
        due("rule(3)", x.rule(3), 53);
        due("rule(1)", x.rule(1), 6);
        for (int n : new int[] {-1, 31, MIN, MAX}) due("minutes(" + n + ")", x.minutes(n), BAD);
        due("rule(1)", x.rule(1), 6);
        due("minutes(30)", x.minutes(30), 9);
        due("rule(3): not below 0", told("wind 0 0;start 0 5;").runs(2, 1), 0);
        due("rule(3): not above 99", told("wind 0 8;start 0 97;").runs(1, 1), 99);
    }

    private static void minutesAtTheirEnd() {
        promise = 17;
        UnsaidBallast x = told("plain 4 0;");
        for (int n = 0; n < 33; n++) x.minutes(30);
        due("rule(1)", x.rule(1), 990);
        due("minutes(10)", x.minutes(10), FULL);
        due("minutes(30)", x.minutes(30), FULL);
        due("minutes(31)", x.minutes(31), BAD);
        due("rule(1)", x.rule(1), 990);
        due("minutes(9)", x.minutes(9), 4);
        due("rule(1)", x.rule(1), 999);
        due("minutes(1)", x.minutes(1), FULL);
        due("minutes(0)", x.minutes(0), 4);
        x.say(0);
        due("falls() looks beyond", x.falls(), 4);
        due("when(0, 0, 60, 0) too", x.when(0, 0, 60, 0), 0);
    }

    /** A text whose basket is at a HEIGHT and stays there. */
    private static String staying(int height) {
        StringBuilder s = new StringBuilder("start ").append(height).append(" 50;");
        int rest = height;
        for (; rest >= 18; rest -= 18) s.append("secret 9 0;");
        for (; rest > 0; rest -= Math.min(rest, 9)) s.append("plain ").append(Math.min(rest, 9)).append(" 0;");
        return s.toString();
    }

    private static void windsByHeights() {
        promise = 17;
        int[][] bands = {{0, 0}, {9, 0}, {10, 1}, {19, 1}, {20, 2}, {29, 2}, {30, 3}, {39, 3}, {40, 4}, {49, 4}, {50, 4}, {60, 4}};
        for (int[] b : bands) {
            UnsaidBallast x = told(staying(b[0]));
            due("rule(4)", x.rule(4), b[0]);
            for (int k = 0; k < 5; k++) x.blow(k, 4 + (k == b[1] ? 3 : 0));
            due("PLACE behind a MINUTE at " + b[0], x.runs(1, 1), 53);
        }
        int[][] falling = {{10, 0}, {20, 1}, {30, 2}, {40, 3}, {41, 4}, {51, 4}, {60, 4}};
        for (int[] b : falling) {
            UnsaidBallast x = told("start " + b[0] + " 50;");
            for (int k = 0; k < 5; k++) x.blow(k, 4 + (k == b[1] ? 3 : 0));
            due("PLACE behind a MINUTE down from " + b[0], x.runs(1, 1), 53);
        }
    }

    private static void runsIt() {
        promise = 18;
        UnsaidBallast x = told("plain 9 0;joke 4 1;rate 4;start 0 50;wind 0 3;wind 1 8;");
        x.plan(4, 0);
        x.plan(6, 1);
        int[] heights = {0, 4, 8, 12, 13, 9, 5, 1, 0, 0};
        int[] places = {50, 49, 48, 52, 56, 55, 54, 53, 52, 51};
        int[] tops = {0, 4, 8, 12, 13, 13, 13, 13, 13, 13};
        int[] downs = {0, 0, 0, 0, 0, 0, 0, 0, 1, 2};
        int[] saids = {0, 0, 0, 0, 0, 1, 1, 3, 3, 3};
        for (int n = 0; n < 10; n++) {
            due("runs(" + n + ", 0)", x.runs(n, 0), heights[n]);
            due("runs(" + n + ", 1)", x.runs(n, 1), places[n]);
            due("runs(" + n + ", 2)", x.runs(n, 2), tops[n]);
            due("runs(" + n + ", 3)", x.runs(n, 3), downs[n]);
            due("runs(" + n + ", 4)", x.runs(n, 4), saids[n]);
        }
        due("runs(60, 3)", x.runs(60, 3), 53);
        for (int n : new int[] {-1, 61, MIN, MAX}) due("runs(" + n + ", 0)", x.runs(n, 0), BAD);
        for (int what : new int[] {-1, 5, MIN, MAX}) due("runs(0, " + what + ")", x.runs(0, what), BAD);
        due("rule(1): all is as it was", x.rule(1), 0);
        due("rule(2)", x.rule(2), 0);
        due("rule(5)", x.rule(5), 0);
        x.minutes(4);
        due("runs(0, 2) now too", x.runs(0, 2), 13);
        due("runs(2, 2) now too", x.runs(2, 2), 13);
        due("runs(4, 0) from now on", x.runs(4, 0), 0);
    }

    private static void fallsIt() {
        promise = 19;
        due("falls() of a new object", new UnsaidBallast().falls(), 1);
        UnsaidBallast x = told("plain 3 0;rate 2;start 5 0;");
        due("falls()", x.falls(), NONE);
        x.plan(4, 0);
        due("falls() by THE PLAN", x.falls(), 6);
        x.minutes(3);
        due("falls() from now on", x.falls(), 3);
        due("falls() of 60", told("start 60 0;").falls(), 60);
        UnsaidBallast late = told("plain 1 0;start 60 0;");
        late.plan(59, 0);
        due("falls() at 60", late.falls(), 60);
        late.cut(0);
        late.plan(60, 0);
        due("falls() behind 60", late.falls(), NONE);
        UnsaidBallast down = told("plain 9 0;");
        due("DOWN now is not counted", down.falls(), NONE);
    }

    private static void churchIt() {
        promise = 20;
        UnsaidBallast x = told("wind 0 6;start 3 10;rate 1;");
        due("church(16)", x.church(16), 3);
        due("church(18)", x.church(18), 4);
        due("church(14)", x.church(14), NONE);
        due("church(17)", x.church(17), NONE);
        due("church(99)", x.church(99), 45);
        for (int c : new int[] {-1, 100, MIN, MAX}) due("church(" + c + ")", x.church(c), BAD);
        UnsaidBallast here = told("start 0 10;wind 0 3;");
        due("church(10), now", here.church(10), 0);
        due("church(0)", here.church(0), 10);
        due("church(11)", here.church(11), NONE);
        UnsaidBallast far = told("start 0 0;wind 0 5;");
        due("church(60)", far.church(60), 60);
        due("church(61)", far.church(61), NONE);
    }

    private static void bestIt() {
        promise = 21;
        UnsaidBallast x = told("plain 2 0;joke 8 1;joke 9 0;plain 1 0;rate 2;start 6 0;");
        due("best(0): none comes down", x.best(0), NONE);
        due("best(1)", x.best(1), NONE);
        x.say(2);
        due("best(0): 2 + 1 - 4 - 4", x.best(0), 1);
        due("best(1)", x.best(1), 3);
        due("rule(5): nothing is SAID by that", x.rule(5), 4);
        UnsaidBallast two = told("tact 1 0;tact 1 0;rate 2;start 6 0;");
        two.plan(5, 0);
        two.plan(5, 1);
        due("best(0), of several the first", two.best(0), 0);
        due("best(1)", two.best(1), 6);
        UnsaidBallast none = told("joke 9 0;");
        none.say(0);
        due("best(0): all are SAID", none.best(0), NONE);
        due("best(0) of no THINGS", new UnsaidBallast().best(0), NONE);
        for (int what : new int[] {-1, 2, MIN, MAX}) due("best(" + what + ")", x.best(what), BAD);
        UnsaidBallast second = told("plain 5 0;plain 9 0;start 20 0;rate 9;");
        second.plan(6, 0);
        due("best(0): the second", second.best(0), 1);
        due("best(1)", second.best(1), 7);
    }

    private static void bothIt() {
        promise = 22;
        UnsaidBallast x = told("plain 2 0;plain 3 1;joke 8 0;plain 4 0;rate 1;start 4 10;wind 0 5;");
        due("both(14, 0): none comes down", x.both(14, 0), NONE);
        x.say(0);
        due("both(14, 0): 1 with 2 leaves 0", x.both(14, 0), 12);
        due("both(14, 1)", x.both(14, 1), 4);
        due("both(13, 0)", x.both(13, 0), NONE);
        due("both(20, 1)", x.both(20, 1), 10);
        x.alter(3, 1, 1);
        x.alter(1, 1, 4);
        due("both(14, 0): all of 12, 13, 23", x.both(14, 0), 12);
        x.alter(1, 1, 9);
        due("both(14, 0): 12 alone", x.both(14, 0), 12);
        x.take(0);
        x.say(1);
        due("both(14, 0): 02", x.both(14, 0), 2);
        x.alter(2, 0, 0);
        due("both(14, 0): none", x.both(14, 0), NONE);
        UnsaidBallast here = told("plain 2 0;plain 3 1;plain 9 0;start 0 10;");
        due("both(10, 0): DOWN there now", here.both(10, 0), 1);
        due("both(10, 1)", here.both(10, 1), 0);
        here.say(1);
        due("both(10, 0)", here.both(10, 0), 2);
        here.say(0);
        due("both(10, 0): one is left", here.both(10, 0), NONE);
        for (int c : new int[] {-1, 100, MIN, MAX}) due("both(" + c + ", 0)", x.both(c, 0), BAD);
        for (int what : new int[] {-1, 2, MIN, MAX}) due("both(0, " + what + ")", x.both(0, what), BAD);
        due("rule(5) is as it was", x.rule(5), 2);
    }

    private static void whenIt() {
        promise = 23;
        UnsaidBallast x = told("plain 9 0;plain 5 1;rate 5;start 0 50;wind 0 5;wind 1 2;");
        due("when(0, 45, 10, 0)", x.when(0, 45, 10, 0), 6);
        due("when(0, 45, 10, 1)", x.when(0, 45, 10, 1), 0);
        due("when(0, 44, 10, 1): between two", x.when(0, 44, 10, 1), 1);
        due("when(0, 0, 10, 0): as late as may be", x.when(0, 0, 10, 0), 10);
        due("when(0, 0, 10, 1)", x.when(0, 0, 10, 1), 33);
        due("when(0, 99, 10, 0): now", x.when(0, 99, 10, 0), 0);
        due("when(0, 99, 10, 1)", x.when(0, 99, 10, 1), 39);
        due("when(0, 0, 60, 0): 30 at most", x.when(0, 0, 60, 0), 30);
        due("when(0, 40, 0, 0)", x.when(0, 40, 0, 0), 0);
        due("when(0, 40, 0, 1)", x.when(0, 40, 0, 1), 10);
        x.plan(0, 0);
        due("when(0, 0, 10, 0): THE PLAN says it ahead", x.when(0, 0, 10, 0), 0);
        int[][] refused = {{-1, 0, 0, 0}, {2, 0, 0, 0}, {0, -1, 0, 0}, {0, 100, 0, 0}, {0, 0, -1, 0}, {0, 0, 61, 0},
            {0, 0, 0, -1}, {0, 0, 0, 2}, {MIN, 0, 0, 0}, {0, MAX, 0, 0}, {0, 0, MIN, 0}, {0, 0, 0, MAX}};
        for (int[] a : refused) due("when() of a wrong number", x.when(a[0], a[1], a[2], a[3]), BAD);
        due("rule(7) is as it was", x.rule(7), 1);
        for (int n = 1; n < 8; n++) x.plan(99, 1);
        due("when() beside a full PLAN", x.when(1, 99, 10, 1), 39);
    }

    private static void steerIt() {
        promise = 24;
        UnsaidBallast x = told("plain 9 0;plain 5 1;rate 5;start 0 50;wind 0 5;wind 1 2;");
        due("steer(1, 50, 3, 0)", x.steer(1, 50, 3, 0), 3);
        due("steer(1, 50, 3, 1)", x.steer(1, 50, 3, 1), 1);
        due("steer(1, 57, 3, 0)", x.steer(1, 57, 3, 0), 7);
        due("steer(1, 57, 3, 1)", x.steer(1, 57, 3, 1), 0);
        due("steer(1, 99, 3, 0)", x.steer(1, 99, 3, 0), 8);
        due("steer(1, 0, 3, 0)", x.steer(1, 0, 3, 0), 0);
        due("steer(1, 0, 3, 1)", x.steer(1, 0, 3, 1), 43);
        due("steer(4, 44, 3, 0): it never blows", x.steer(4, 44, 3, 0), 0);
        due("steer(4, 44, 3, 1)", x.steer(4, 44, 3, 1), 3);
        due("steer(0, 50, 0, 0)", x.steer(0, 50, 0, 0), 0);
        due("wind(1) is as it was", x.wind(1), 2);
        int[][] refused = {{-1, 0, 0, 0}, {5, 0, 0, 0}, {0, -1, 0, 0}, {0, 100, 0, 0}, {0, 0, -1, 0}, {0, 0, 61, 0},
            {0, 0, 0, -1}, {0, 0, 0, 2}, {MIN, 0, 0, 0}, {0, MAX, 0, 0}, {0, 0, MIN, 0}, {0, 0, 0, MAX}};
        for (int[] a : refused) due("steer() of a wrong number", x.steer(a[0], a[1], a[2], a[3]), BAD);
    }

    /** No KIND draws more when it is SAID, so that leaving out a SAYING never keeps the basket lower. */
    private static void hushIt() {
        promise = 25;
        UnsaidBallast x = told("plain 9 0;tact 5 1;secret 3 0;joke 8 1;rate 3;start 20 50;");
        due("hush(9, 0) of no PLAN", x.hush(9, 0), NONE);
        for (int i = 0; i < 4; i++) x.plan(i, i);
        x.plan(2, 0);
        for (int n : new int[] {0, 1, 5, 60}) {
            due("hush(" + n + ", 0)", x.hush(n, 0), NONE);
            due("hush(" + n + ", 1)", x.hush(n, 1), NONE);
        }
        for (int n : new int[] {-1, 61, MIN, MAX}) due("hush(" + n + ", 0)", x.hush(n, 0), BAD);
        for (int what : new int[] {-1, 2, MIN, MAX}) due("hush(0, " + what + ")", x.hush(0, what), BAD);
        due("rule(7)", x.rule(7), 5);
    }

    private static void swapIt() {
        promise = 26;
        UnsaidBallast x = told("plain 4 0;joke 9 1;plain 9 0;rate 9;start 20 50;");
        due("swap(0) of no PLAN", x.swap(0), NONE);
        x.plan(2, 0);
        x.plan(4, 1);
        x.plan(8, 2);
        due("falls()", x.falls(), 9);
        due("swap(0): 13 at 2, 0 at 4", x.swap(0), 2);
        due("swap(1)", x.swap(1), 6);
        due("rule(7)", x.rule(7), 3);
        due("saying(1, 1) is as it was", x.saying(1, 1), 1);
        UnsaidBallast never = told("plain 4 0;plain 5 1;start 9 0;rate 9;");
        never.plan(3, 0);
        never.plan(99, 1);
        due("falls()", never.falls(), NONE);
        due("swap(0): no better", never.swap(0), NONE);
        never.minutes(4);
        due("swap(0): the first's MINUTE is over", never.swap(0), NONE);
        UnsaidBallast saved = told("plain 4 0;joke 8 1;start 9 0;rate 9;");
        saved.plan(99, 1);
        saved.plan(3, 0);
        saved.plan(2, 0);
        due("falls()", saved.falls(), NONE);
        due("swap(0), of several the least", saved.swap(0), 1);
        due("swap(1)", saved.swap(1), 4);
        UnsaidBallast deep = told("plain 4 0;plain 3 1;rate 3;start 3 0;");
        deep.say(0);
        deep.plan(99, 0);
        deep.plan(98, 0);
        deep.plan(2, 0);
        deep.plan(5, 1);
        due("falls()", deep.falls(), 6);
        due("swap(0): all others put it off", deep.swap(0), 23);
        due("swap(1)", deep.swap(1), 3);
        for (int what : new int[] {-1, 2, MIN, MAX}) due("swap(" + what + ")", x.swap(what), BAD);
    }

    private static void needIt() {
        promise = 27;
        UnsaidBallast x = told("plain 5 0;secret 3 1;rate 4;");
        due("need(0, 2, 8): 6 by the other, 2 more", x.need(0, 2, 8), 2);
        due("need(0, 3, 12)", x.need(0, 3, 12), 6);
        due("need(0, 3, 13): too early", x.need(0, 3, 13), NONE);
        due("need(0, 60, 15)", x.need(0, 60, 15), 9);
        due("need(0, 60, 16)", x.need(0, 60, 16), NONE);
        due("need(1, 60, 16): twice", x.need(1, 60, 16), 6);
        due("need(0, 0, 0)", x.need(0, 0, 0), 1);
        due("need(0, 0, 1)", x.need(0, 0, 1), NONE);
        due("thing(0, 1) is as it was", x.thing(0, 1), 5);
        int[][] refused = {{-1, 0, 0}, {2, 0, 0}, {0, -1, 0}, {0, 61, 0}, {0, 0, -1}, {0, 0, 61}, {MIN, 0, 0}, {0, MAX, 0}, {0, 0, MIN}};
        for (int[] a : refused) due("need() of a wrong number", x.need(a[0], a[1], a[2]), BAD);
    }

    private static void luckIt() {
        promise = 28;
        UnsaidBallast x = told("plain 4 0;plain 6 1;rate 9;");
        due("luck(3, 5, 9, 0) of no PLAN", x.luck(3, 5, 9, 0), 0);
        due("luck(3, 5, 9, 1): 0 is 0 by 1", x.luck(3, 5, 9, 1), 1);
        due("luck(3, 5, 10, 0)", x.luck(3, 5, 10, 0), 1);
        due("luck(3, 5, 10, 1)", x.luck(3, 5, 10, 1), 1);
        x.plan(0, 0);
        x.plan(1, 1);
        due("luck(2, 5, 5, 0): the second comes", x.luck(2, 5, 5, 0), 4);
        due("luck(2, 5, 5, 1)", x.luck(2, 5, 5, 1), 5);
        due("luck(2, 5, 3, 0): both come", x.luck(2, 5, 3, 0), 16);
        due("luck(2, 5, 3, 1)", x.luck(2, 5, 3, 1), 25);
        due("luck(2, 5, 9, 0): not both fail", x.luck(2, 5, 9, 0), 24);
        due("luck(2, 5, 9, 1)", x.luck(2, 5, 9, 1), 25);
        due("luck(0, 5, 0, 0)", x.luck(0, 5, 0, 0), 1);
        due("luck(10, 5, 0, 0)", x.luck(10, 5, 0, 0), 0);
        due("luck(10, 5, 0, 1)", x.luck(10, 5, 0, 1), 1);
        x.plan(2, 1);
        due("luck(1, 5, 5, 0): one of two comes", x.luck(1, 5, 5, 0), 99);
        due("luck(1, 5, 5, 1)", x.luck(1, 5, 5, 1), 100);
        for (int n = 4; n <= 8; n++) x.plan(3, 1);
        due("luck(1, 5, 5, 0) of eight", x.luck(1, 5, 5, 0), 9999999);
        due("luck(1, 5, 5, 1) of eight", x.luck(1, 5, 5, 1), 10000000);
        due("luck(9, 5, 0, 0)", x.luck(9, 5, 0, 0), 5217031);
        due("luck(9, 5, 0, 1)", x.luck(9, 5, 0, 1), 100000000);
        due("luck(9, 60, 60, 0)", x.luck(9, 60, 60, 0), 1);
        int[][] refused = {{-1, 0, 0, 0}, {11, 0, 0, 0}, {0, -1, 0, 0}, {0, 61, 0, 0}, {0, 0, -1, 0}, {0, 0, 61, 0},
            {0, 0, 0, -1}, {0, 0, 0, 2}, {MIN, 0, 0, 0}, {0, MAX, 0, 0}, {0, 0, MIN, 0}, {0, 0, 0, MAX}};
        for (int[] a : refused) due("luck() of a wrong number", x.luck(a[0], a[1], a[2], a[3]), BAD);
        due("rule(7)", x.rule(7), 8);
    }

    private static void meanIt() {
        promise = 29;
        UnsaidBallast x = told("plain 4 0;plain 6 1;rate 9;");
        due("mean(3, 5, 0) of no PLAN", x.mean(3, 5, 0), 10);
        due("mean(3, 5, 1)", x.mean(3, 5, 1), 1);
        due("mean(3, 0, 0): 0 is 0 by 1", x.mean(3, 0, 0), 0);
        due("mean(3, 0, 1)", x.mean(3, 0, 1), 1);
        x.plan(0, 0);
        x.plan(1, 1);
        due("mean(3, 5, 0): 3 of 10 of 10", x.mean(3, 5, 0), 3);
        due("mean(3, 5, 1)", x.mean(3, 5, 1), 1);
        due("mean(1, 5, 0)", x.mean(1, 5, 0), 1);
        x.plan(2, 1);
        due("mean(1, 5, 0): 4 by .1 and 6 by .01", x.mean(1, 5, 0), 23);
        due("mean(1, 5, 1)", x.mean(1, 5, 1), 50);
        due("mean(0, 5, 0)", x.mean(0, 5, 0), 0);
        due("mean(0, 5, 1)", x.mean(0, 5, 1), 1);
        due("mean(10, 5, 0)", x.mean(10, 5, 0), 10);
        for (int n = 4; n <= 8; n++) x.plan(3, 1);
        due("mean(9, 5, 0) of eight", x.mean(9, 5, 0), meanOfEight(0));
        due("mean(9, 5, 1) of eight", x.mean(9, 5, 1), meanOfEight(1));
        int[][] refused = {{-1, 0, 0}, {11, 0, 0}, {0, -1, 0}, {0, 61, 0}, {0, 0, -1}, {0, 0, 2}, {MIN, 0, 0}, {0, MAX, 0}, {0, 0, MIN}};
        for (int[] a : refused) due("mean() of a wrong number", x.mean(a[0], a[1], a[2]), BAD);
    }

    /** 4 by 9 tenths and 6 by the 7th power of 9 tenths. */
    private static long meanOfEight(int what) {
        long sum = 4L * 9 * 10000000 + 6L * 4782969 * 10, all = 100000000L;
        long g = java.math.BigInteger.valueOf(sum).gcd(java.math.BigInteger.valueOf(all)).longValue();
        return (what == 0 ? sum : all) / g;
    }

    private static void seeIt() {
        promise = 30;
        UnsaidBallast x = told("plain 4 0;");
        int[][] refused = {{-1, 0}, {31, 0}, {0, -1}, {0, 61}, {MIN, 0}, {MAX, 0}, {0, MIN}, {0, MAX}};
        for (int[] a : refused) due("see(" + a[0] + ", " + a[1] + ")", x.see(a[0], a[1]), BAD);
        due("count(0)", x.count(0), 0);
        due("see(0, 0)", x.see(0, 0), 1);
        due("see(30, 60)", x.see(30, 60), 2);
        for (int n = 3; n <= 6; n++) due("see(0, 0)", x.see(0, 0), n);
        due("see(0, 0), the 7th", x.see(0, 0), FULL);
        due("see(31, 0), the 7th", x.see(31, 0), BAD);
        due("count(0)", x.count(0), 6);
        due("weights(0): 60 it never is", x.weights(0), 0);
    }

    private static void forgetIt() {
        promise = 31;
        UnsaidBallast x = told("plain 4 0;rate 9;");
        due("forget(1) of none", x.forget(1), BAD);
        x.see(1, 3);
        x.see(1, 5);
        due("weights(0)", x.weights(0), 0);
        for (int n : new int[] {-1, 3, MIN, MAX}) due("forget(" + n + ")", x.forget(n), BAD);
        due("forget(2)", x.forget(2), 2);
        due("forget(1)", x.forget(1), 2);
        due("count(0)", x.count(0), 1);
        due("weights(0): the first is SEEN still", x.weights(0), 1 << 3);
        due("forget(0)", x.forget(0), 1);
        due("weights(0)", x.weights(0), 1022);
    }

    private static void kindsIt() {
        promise = 32;
        UnsaidBallast x = told("plain 4 0;plain 2 1;rate 9;");
        due("kinds(0), nothing SEEN", x.kinds(0), 15);
        x.see(2, 6);
        due("kinds(0)", x.kinds(0), 11);
        x.forget(0);
        x.see(2, 10);
        due("kinds(0): secret", x.kinds(0), 4);
        x.forget(0);
        x.say(0);
        x.see(30, 2);
        due("kinds(0), SAID", x.kinds(0), 5);
        x.forget(0);
        x.see(5, 4);
        due("kinds(0), SAID: tact", x.kinds(0), 2);
        x.forget(0);
        x.see(5, 0);
        due("kinds(0), SAID: joke", x.kinds(0), 8);
        x.see(0, 1);
        due("kinds(0): it is not so now", x.kinds(0), 0);
        due("thing(0, 0) is as it was", x.thing(0, 0), 0);
        for (int i : new int[] {-1, 2, MIN, MAX}) due("kinds(" + i + ")", x.kinds(i), BAD);
    }

    private static void weightsIt() {
        promise = 33;
        UnsaidBallast x = told("tact 4 0;plain 2 1;rate 3;");
        due("weights(0), nothing SEEN", x.weights(0), 1022);
        x.see(1, 3);
        due("weights(0)", x.weights(0), 1022);
        x.see(2, 6);
        due("weights(0): 4 or more", x.weights(0), 1008);
        x.see(30, 9);
        due("weights(0)", x.weights(0), 1 << 7);
        x.forget(0);
        x.plan(4, 0);
        x.see(30, 4);
        due("weights(0): 4, 5 by THE PLAN", x.weights(0), 1 << 4 | 1 << 5);
        due("thing(0, 1) is as it was", x.thing(0, 1), 4);
        for (int i : new int[] {-1, 2, MIN, MAX}) due("weights(" + i + ")", x.weights(i), BAD);
        x.minutes(1);
        due("weights(0): from now on", x.weights(0), 1 << 4 | 1 << 5);
        x.minutes(5);
        x.forget(0);
        x.see(0, 4);
        due("weights(0): as it is now", x.weights(0), 1022);
    }

    private static void saidsIt() {
        promise = 34;
        UnsaidBallast x = told("plain 4 0;plain 2 1;plain 2 0;rate 9;");
        due("saids(0), nothing SEEN", x.saids(0), 8);
        due("saids(1)", x.saids(1), 0);
        x.see(1, 4);
        due("saids(0): 1 and 2, or 0", x.saids(0), 2);
        due("saids(1)", x.saids(1), 1);
        x.say(0);
        due("saids(0) is the same", x.saids(0), 2);
        due("rule(5) is as it was", x.rule(5), 1);
        x.plan(2, 1);
        x.see(3, 2);
        due("saids(0): THE PLAN too", x.saids(0), 1);
        due("saids(1)", x.saids(1), 1);
        x.see(3, 3);
        due("saids(0): none", x.saids(0), 0);
        due("saids(1): none", x.saids(1), NONE);
        for (int what : new int[] {-1, 2, MIN, MAX}) due("saids(" + what + ")", x.saids(what), BAD);
        UnsaidBallast empty = new UnsaidBallast();
        due("saids(0) of no THINGS", empty.saids(0), 1);
        due("saids(1) of no THINGS", empty.saids(1), 0);
        empty.see(0, 1);
        due("saids(0) of no THINGS", empty.saids(0), 0);
        due("saids(1) of no THINGS", empty.saids(1), NONE);
    }

    private static void askIt() {
        promise = 35;
        UnsaidBallast x = told("plain 4 0;rate 3;");
        due("ask(0, 0): all differ at 9", x.ask(0, 0), 3);
        due("ask(0, 1)", x.ask(0, 1), 1);
        x.see(1, 3);
        due("ask(0, 0): 3 to 9", x.ask(0, 0), 3);
        due("ask(0, 1)", x.ask(0, 1), 1);
        x.say(0);
        due("ask(0, 0): 3 it is never then", x.ask(0, 0), NONE);
        x.forget(0);
        due("ask(0, 0): SAID it tells nothing", x.ask(0, 0), NONE);
        due("ask(0, 1)", x.ask(0, 1), NONE);
        UnsaidBallast tact = told("tact 4 0;rate 9;");
        tact.say(0);
        due("ask(0, 0): halves", tact.ask(0, 0), 1);
        due("ask(0, 1)", tact.ask(0, 1), 2);
        tact.see(1, 2);
        due("ask(0, 0): 4 or 5 is never told", tact.ask(0, 0), NONE);
        UnsaidBallast high = told(staying(60));
        due("ask(3, 0): 60 yards at most", high.ask(3, 0), 2);
        due("ask(3, 1): 6 to 9 are alike", high.ask(3, 1), 4);
        UnsaidBallast late = told("plain 4 0;start 40 0;");
        due("ask(0, 0): down to 10 behind 30", late.ask(0, 0), NONE);
        UnsaidBallast late2 = told("plain 4 0;start 38 0;");
        due("ask(0, 0): 8 behind 30", late2.ask(0, 0), 30);
        due("ask(0, 1)", late2.ask(0, 1), 8);
        due("thing(0, 1) is as it was", late2.thing(0, 1), 4);
        for (int i : new int[] {-1, 1, MIN, MAX}) due("ask(" + i + ", 0)", x.ask(i, 0), BAD);
        for (int what : new int[] {-1, 2, MIN, MAX}) due("ask(0, " + what + ")", x.ask(0, what), BAD);
    }

    private static void driftIt() {
        promise = 36;
        due("drift() of no THINGS", new UnsaidBallast().drift(1, 1, 0), STATE);
        due("drift(1, 0, 0) of no THINGS", new UnsaidBallast().drift(1, 0, 0), BAD);
        due("drift(1, 1, 2) of no THINGS", new UnsaidBallast().drift(1, 1, 2), BAD);
        UnsaidBallast x = told("plain 6 0;tact 5 1;secret 4 0;start 9 20;wind 0 5;wind 1 2;");
        x.plan(0, 2);
        x.plan(2, 0);
        x.plan(2, 1);
        due("drift(7, 9, 0), THE PLAN too", x.drift(7, 9, 0), 13);
        due("drift(7, 9, 1)", x.drift(7, 9, 1), 11);
        due("rule(5) is as it was", x.rule(5), 0);
        due("rule(1)", x.rule(1), 0);
        x.cut(0);
        due("drift(7, 9, 0), no PLAN", x.drift(7, 9, 0), 14);
        due("drift(7, 9, 1)", x.drift(7, 9, 1), 5);
        // Seed 0 becomes 12345: got is 0, so THING 0 is taken back.
        UnsaidBallast y = told("plain 5 0;rate 9;");
        y.say(0);
        due("drift(0, 1, 0)", y.drift(0, 1, 0), 5);
        due("drift(MIN, 1, 0): bit 31 is not got", y.drift(MIN, 1, 0), 5);
        // Seed 1 becomes 1103527590: got is 16838, by 8 it is 2104.
        due("drift(1, 1, 0)", y.drift(1, 1, 0), 5);
        // Seed 2 becomes 2207042835: got is 908, by 8 it is 113.
        y.take(0);
        due("drift(2, 1, 0)", y.drift(2, 1, 0), 0);
        due("drift(2, 1, 1)", y.drift(2, 1, 1), 0);
        for (int n : new int[] {-1, 0, 61, MIN, MAX}) due("drift(1, " + n + ", 0)", x.drift(1, n, 0), BAD);
        for (int what : new int[] {-1, 2, MIN, MAX}) due("drift(1, 1, " + what + ")", x.drift(1, 1, what), BAD);
        due("drift(1, 60, 0) is an answer", x.drift(1, 60, 0) >= 0 ? 1 : 0, 1);
    }

    private static void keepIt() {
        promise = 37;
        UnsaidBallast x = told("plain 6 0;start 9 20;");
        due("keep(0)", x.keep(0), 0);
        due("keep(0) again", x.keep(0), 1);
        due("count(1)", x.count(1), 1);
        due("keep(1)", x.keep(1), 0);
        due("count(1)", x.count(1), 2);
        for (int k : new int[] {-1, 2, MIN, MAX}) due("keep(" + k + ")", x.keep(k), BAD);
        x.minutes(2);
        due("keep(0)", x.keep(0), 1);
        due("back(1)", x.back(1), 0);
        due("back(0)", x.back(0), 2);
    }

    private static void backIt() {
        promise = 38;
        UnsaidBallast x = told("plain 6 0;tact 5 1;start 9 20;rate 2;wind 0 7;wind 4 1;");
        for (int k : new int[] {-1, 2, MIN, MAX}) due("back(" + k + ")", x.back(k), BAD);
        due("back(0) of none", x.back(0), STATE);
        x.say(1);
        x.plan(3, 0);
        x.plan(4, 1);
        x.see(1, 8);
        x.minutes(1);
        x.sheet(0, 1, 7);
        x.feed('a');
        due("keep(1)", x.keep(1), 0);
        due("back(0) of none still", x.back(0), STATE);
        x.minutes(5);
        x.alter(0, 0, 2);
        x.alter(0, 1, 9);
        x.alter(1, 2, 0);
        x.take(1);
        x.blow(4, 8);
        x.rate(9);
        x.cut(0);
        x.plan(9, 1);
        x.see(2, 2);
        x.sheet(0, 0, 3);
        x.feed('b');
        for (int again = 0; again < 2; again++) {
            due("back(1)", x.back(1), 1);
            int[] rules = {2, 1, 8, 23, 8, 2, 2, 2};
            for (int what = 0; what < 8; what++) due("rule(" + what + ")", x.rule(what), rules[what]);
            due("thing(0, 0)", x.thing(0, 0), 0);
            due("thing(0, 1)", x.thing(0, 1), 6);
            due("thing(1, 2)", x.thing(1, 2), 1);
            due("wind(0)", x.wind(0), 7);
            due("wind(4)", x.wind(4), 1);
            due("saying(0, 0)", x.saying(0, 0), 3);
            due("saying(1, 1)", x.saying(1, 1), 1);
            due("count(0)", x.count(0), 1);
            due("count(2): THE TAPE is in no IMAGE", x.count(2), 2);
            due("count(3): nor are SHEETS", x.count(3), 3);
            x.alter(0, 1, 3);
            x.blow(0, 0);
            x.cut(1);
            x.plan(77, 0);
            x.forget(0);
            x.minutes(3);
        }
    }

    private static void sheetIt() {
        promise = 39;
        UnsaidBallast x = told("plain 6 0;");
        due("sheet(0, 0, 0)", x.sheet(0, 0, 0), 1);
        due("count(3)", x.count(3), 0);
        due("lay(0, 0, 1)", x.lay(0, 0, 1), -12);
        due("sheet(0, 2, 40)", x.sheet(0, 2, 40), 1);
        due("count(3)", x.count(3), 40);
        due("sheet(3, 1, 40)", x.sheet(3, 1, 40), 1);
        int[][] refused = {{-1, 0, 0}, {4, 0, 0}, {0, -1, 0}, {0, 3, 0}, {0, 0, 41}, {MIN, 0, 0}, {MAX, 0, 0}, {0, MIN, 0},
            {0, MAX, 0}, {0, 0, MAX}, {4, 0, -1}, {0, 3, -1}};
        for (int[] a : refused) due("sheet() of a wrong number", x.sheet(a[0], a[1], a[2]), BAD);
        due("sheet(0, 0, -1)", x.sheet(0, 0, -1), -14);
        due("sheet(1, 0, MIN)", x.sheet(1, 0, MIN), -14);
        due("count(3) is as it was", x.count(3), 40);
        due("lay(1, 0, 0): nothing still", x.lay(1, 0, 0), -11);
        x.lay(0, 0, 5);
        due("sheet(0, 2, 2) is new", x.sheet(0, 2, 2), 1);
        x.read(0, 2, 0, 1);
        due("saying(0, 0)", x.saying(0, 0), 0);
    }

    private static void layIt() {
        promise = 40;
        UnsaidBallast x = told("plain 6 0;");
        for (int k : new int[] {-1, 4, MIN, MAX}) due("lay(" + k + ", 0, 0)", x.lay(k, 0, 0), BAD);
        due("lay(2, -1, 0) of nothing", x.lay(2, -1, 0), -11);
        x.sheet(2, 0, 3);
        for (int i : new int[] {-1, 3, 40, MIN, MAX}) due("lay(2, " + i + ", 0)", x.lay(2, i, 0), -12);
        due("lay(2, 2, 9)", x.lay(2, 2, 9), 1);
        int[][] cells = {{0, 256 + 50, 50}, {0, -256 + 99, 99}, {1, 65536 + 7, 7}, {1, -65536, 0}, {2, 98, 98}};
        for (int[] c : cells) {
            x.cut(0);
            x.sheet(2, c[0], 2);
            due("lay(2, 0, " + c[1] + ")", x.lay(2, 0, c[1]), 1);
            due("read()", x.read(2, c[0], 0, 1), 1);
            due("saying(0, 0)", x.saying(0, 0), c[2]);
        }
        int[][] refused = {{0, 128}, {0, 255}, {1, 256}, {1, 32768}, {1, 65535}, {2, 256}, {2, 65536}, {2, -1}};
        for (int[] c : refused) {
            x.cut(0);
            x.sheet(2, c[0], 2);
            x.lay(2, 0, c[1]);
            due("read() of " + c[1] + " in lane " + c[0], x.read(2, c[0], 0, 1), -20);
        }
    }

    private static void readIt() {
        promise = 41;
        UnsaidBallast x = told("plain 6 0;tact 3 1;");
        x.sheet(1, 1, 7);
        int[] cells = {9, 1, 4, 0, 5, 1, 6};
        for (int i = 0; i < 7; i++) x.lay(1, i, cells[i]);
        due("read(1, 1, 0, 2)", x.read(1, 1, 0, 2), 2);
        int[][] sayings = {{9, 1}, {4, 0}};
        for (int k = 0; k < 2; k++) {
            for (int what = 0; what < 2; what++) due("saying(" + k + ", " + what + ")", x.saying(k, what), sayings[k][what]);
        }
        due("read(1, 1, 0, 20): three are whole", x.read(1, 1, 0, 20), 3);
        due("torn()", x.torn(), 2);
        due("rule(7)", x.rule(7), 5);
        due("read(1, 1, 1, 1): 1, 4 is refused", x.read(1, 1, 1, 1), -20);
        due("read(1, 1, 3, 2): 1, 6", x.read(1, 1, 3, 2), -20);
        due("rule(7)", x.rule(7), 5);
        x.lay(1, 3, 3);
        due("read(1, 1, 0, 3): the second is refused", x.read(1, 1, 0, 3), -21);
        due("rule(7): none came", x.rule(7), 5);
        due("torn() is as it was", x.torn(), 2);
        x.lay(1, 3, 0);
        due("read(1, 1, 0, 3)", x.read(1, 1, 0, 3), 3);
        due("rule(7)", x.rule(7), 8);
        due("read(1, 1, 0, 1): THE PLAN is full", x.read(1, 1, 0, 1), -20);
        x.cut(7);
        due("read(1, 1, 0, 3): full at the second", x.read(1, 1, 0, 3), -21);
        due("rule(7)", x.rule(7), 7);
        due("read(1, 1, 4, 20): one came, then full ahead of the tear", x.read(1, 1, 4, 20), 1);
        due("torn()", x.torn(), 2);
        for (int f : new int[] {-1, -2, 6, 7, 40, MIN, MAX}) {
            due("read(1, 1, " + f + ", 1)", x.read(1, 1, f, 1), 0);
            due("torn()", x.torn(), 2);
        }
        due("rule(7)", x.rule(7), 8);
        due("read(1, 1, 0, 0)", x.read(1, 1, 0, 0), 0);
        due("torn()", x.torn(), 0);
        int[][] refused = {{-1, 0, 0, 0}, {4, 0, 0, 0}, {0, -1, 0, 0}, {0, 3, 0, 0}, {0, 0, 0, -1}, {0, 0, 0, 21},
            {MIN, 0, 0, 0}, {MAX, 0, 0, 0}, {0, MIN, 0, 0}, {0, MAX, 0, 0}, {0, 0, 0, MIN}, {0, 0, 0, MAX}};
        for (int[] a : refused) due("read() of a wrong number", x.read(a[0], a[1], a[2], a[3]), BAD);
    }

    private static void tornIt() {
        promise = 42;
        UnsaidBallast x = told("plain 6 0;");
        due("torn() of no read()", x.torn(), 0);
        due("read(0, 0, -1, 1) of nothing", x.read(0, 0, -1, 1), 0);
        due("torn(): NULL", x.torn(), 1);
        x.sheet(0, 1, 4);
        due("read(0, 0, -1, 1): another lane", x.read(0, 0, -1, 1), 0);
        due("torn(): CAST", x.torn(), 3);
        x.read(0, 3, 0, 1);
        due("torn(): a refused read() leaves it", x.torn(), 3);
        due("read(0, 2, 0, 1)", x.read(0, 2, 0, 1), 0);
        due("torn(): CAST", x.torn(), 3);
        x.lay(0, 1, 1);
        due("read(0, 1, 0, 1): no THING 1", x.read(0, 1, 0, 1), -20);
        due("torn(): a refused read() leaves it", x.torn(), 3);
        x.lay(0, 1, 0);
        due("read(0, 1, 0, 3)", x.read(0, 1, 0, 3), 2);
        due("torn(): INDEX", x.torn(), 2);
        due("read(0, 1, 0, 2)", x.read(0, 1, 0, 2), 2);
        due("torn(): none", x.torn(), 0);
    }

    private static void countIt() {
        promise = 43;
        UnsaidBallast x = told("plain 6 0;tact 5 1;secret 4 0;joke 9 1;");
        due("count(4)", x.count(4), 10);
        due("count(5)", x.count(5), 14);
        x.say(0);
        x.say(3);
        due("count(4)", x.count(4), 4);
        due("count(5)", x.count(5), 5);
        x.alter(2, 2, 1);
        due("count(4)", x.count(4), 0);
        due("count(5)", x.count(5), 9);
        x.see(3, 3);
        x.keep(1);
        x.feed('a');
        x.feed('b');
        x.feed('c');
        x.sheet(1, 0, 9);
        due("count(3): SHEET 0 is nothing", x.count(3), NONE);
        x.sheet(0, 1, 0);
        due("count(0)", x.count(0), 1);
        due("count(1)", x.count(1), 1);
        due("count(2)", x.count(2), 3);
        due("count(3)", x.count(3), 0);
        x.sheet(0, 2, 33);
        due("count(3)", x.count(3), 33);
        for (int what : new int[] {-1, 6, MIN, MAX}) due("count(" + what + ")", x.count(what), BAD);
    }

    public static void main(String[] args) {
        aNewObject();
        feedIt();
        endIt();
        textsThatAreTaken();
        aTextTellsAll();
        faults();
        ruleIt();
        thingIt();
        windIt();
        sayingIt();
        alterIt();
        blowIt();
        rateIt();
        sayIt();
        takeIt();
        planIt();
        cutIt();
        minutesRun();
        minutesAtTheirEnd();
        windsByHeights();
        runsIt();
        fallsIt();
        churchIt();
        bestIt();
        bothIt();
        whenIt();
        steerIt();
        hushIt();
        swapIt();
        needIt();
        luckIt();
        meanIt();
        seeIt();
        forgetIt();
        kindsIt();
        weightsIt();
        saidsIt();
        askIt();
        driftIt();
        keepIt();
        backIt();
        sheetIt();
        layIt();
        readIt();
        tornIt();
        countIt();
        System.out.println("promises: " + right + " answers are as due, " + wrong + " are not");
        if (wrong != 0) System.exit(1);
    }
}
