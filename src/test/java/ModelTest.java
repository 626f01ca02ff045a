import java.lang.reflect.Method;
import java.util.ArrayList;
import java.util.Arrays;
import java.util.List;
import java.util.Random;
import java.util.TreeMap;

/** Long runs of calls by seeds: the class and the Model must answer alike, and be alike behind each call. */
public final class ModelTest {
    private static final int RUNS = 1500, CALLS = 400;

    /** A call's name, how often it comes, and the bounds of its numbers, a pair each. */
    private static final String[] CALLS_BY_BOUNDS = {
        "feed 1 0 127", "end 1 0 9", "rule 1 0 7", "thing 2 0 5 0 4", "wind 1 0 4", "saying 2 0 7 0 1",
        "alter 4 0 5 0 2 0 9", "blow 3 0 4 0 8", "rate 3 1 9", "say 4 0 5", "take 4 0 5", "plan 8 0 99 0 5", "cut 2 0 8",
        "minutes 3 0 30", "runs 5 0 60 0 4", "falls 2", "church 4 0 99",
        "best 4 0 1", "both 4 0 99 0 1", "when 4 0 5 0 99 0 60 0 1", "steer 4 0 4 0 99 0 60 0 1", "hush 2 0 60 0 1",
        "swap 4 0 1", "need 4 0 5 0 60 0 60", "luck 2 0 10 0 60 0 60 0 1", "mean 2 0 10 0 60 0 1",
        "see 4 0 30 0 60", "forget 2 0 6", "kinds 3 0 5", "weights 3 0 5", "saids 3 0 1", "ask 4 0 5 0 1",
        "drift 3 -2000000000 2000000000 1 60 0 1", "keep 1 0 1", "back 1 0 1",
        "sheet 2 0 3 0 2 0 40", "lay 8 0 3 0 39 -300 300", "read 4 0 3 0 2 0 39 0 20", "torn 1", "count 2 0 5", "fault 1"};

    private static final String[] WORDS = {"plain", "tact", "secret", "joke", "wind", "rate", "start"};

    private final Random dice;
    private final UnsaidBallast object = new UnsaidBallast();
    private final Model model = new Model();
    private final List<String> told = new ArrayList<>();
    private static final TreeMap<String, Integer> answered = new TreeMap<>();
    private int wrong = 0;

    private ModelTest(int seed) {
        dice = new Random(seed);
    }

    private static Object ask(Object of, String name, int[] args) throws Exception {
        Class<?>[] types = new Class<?>[args.length];
        Arrays.fill(types, int.class);
        Object[] boxed = new Object[args.length];
        for (int k = 0; k < args.length; k++) boxed[k] = args[k];
        Method m = of.getClass().getDeclaredMethod(name, types);
        m.setAccessible(true);
        return m.invoke(of, boxed);
    }

    private void call(String name, int... args) throws Exception {
        long got = ((Number) ask(object, name, args)).longValue();
        long want = ((Number) ask(model, name, args)).longValue();
        String row = name + Arrays.toString(args) + " answered " + got + ", due is " + want;
        told.add(row);
        answered.merge(name + (want < 0 ? want < -4 ? " refused" : " " + want : " fine"), 1, Integer::sum);
        if (got != want) {
            wrong++;
            System.out.println(row);
        }
    }

    private void compareAll() {
        for (int what = -1; what <= 8; what++) same("rule " + what, object.rule(what), model.rule(what));
        for (int i = 0; i < 6; i++) {
            for (int what = 0; what <= 4; what++) same("thing " + i + " " + what, object.thing(i, what), model.thing(i, what));
        }
        for (int k = 0; k < 5; k++) same("wind " + k, object.wind(k), model.wind(k));
        for (int k = 0; k < 8; k++) {
            for (int what = 0; what <= 1; what++) same("saying " + k, object.saying(k, what), model.saying(k, what));
        }
        for (int what = 0; what <= 5; what++) same("count " + what, object.count(what), model.count(what));
        same("torn", object.torn(), model.torn());
        same("fault", object.fault(), model.fault());
    }

    private void same(String what, int got, int want) {
        if (got != want) {
            wrong++;
            System.out.println("behind that, " + what + " is " + got + ", due is " + want);
        }
    }

    private int of(int a, int b) {
        return a + (int) Math.floorMod(dice.nextLong(), (long) b - a + 1);
    }

    private String sourceText() {
        StringBuilder s = new StringBuilder();
        int lines = of(1, 9);
        for (int k = 0; k < lines; k++) {
            String word = WORDS[dice.nextInt(3) == 0 ? of(4, 6) : of(0, 3)];
            if (word.equals("rate") || word.equals("start")) {
                if (s.indexOf(word) >= 0 && dice.nextInt(10) > 0) continue;
            }
            s.append(" ".repeat(dice.nextInt(5) == 0 ? 1 : 0)).append(word).append(' ');
            if (word.equals("wind")) s.append(dice.nextInt(20) == 0 ? of(0, 5) : k % 5).append(' ').append(of(0, dice.nextInt(20) == 0 ? 9 : 8));
            else if (word.equals("rate")) s.append(dice.nextInt(3) > 0 ? of(3, 9) : of(1, 9));
            else if (word.equals("start")) s.append(of(0, dice.nextBoolean() ? 60 : 12)).append(' ').append(of(0, 99));
            else s.append(of(dice.nextInt(20) == 0 ? 0 : 1, 9)).append(' ').append(of(0, dice.nextInt(20) == 0 ? 2 : 1));
            s.append(';');
        }
        if (dice.nextInt(4) == 0 && s.length() > 0) spoil(s);
        return s.toString();
    }

    private void spoil(StringBuilder s) {
        int p = dice.nextInt(s.length());
        String bytes = "az09;; !A\t`{/:";
        switch (dice.nextInt(3)) {
            case 0: s.setCharAt(p, bytes.charAt(dice.nextInt(bytes.length()))); break;
            case 1: s.insert(p, bytes.charAt(dice.nextInt(bytes.length()))); break;
            default: s.setLength(p);
        }
    }

    private void tellText() throws Exception {
        String s = sourceText();
        if (dice.nextInt(4) > 0) call("end", 0);
        for (int p = 0; p < s.length(); p++) call("feed", s.charAt(p));
        call("text");
        call("fault");
        compareAll();
    }

    private int number(int a, int b) {
        if (dice.nextInt(40) == 0) {
            int[] edges = {a - 1, b + 1, Integer.MIN_VALUE, Integer.MAX_VALUE, -1, 0};
            return edges[dice.nextInt(edges.length)];
        }
        switch (dice.nextInt(8)) {
            case 0: return a;
            case 1: return b;
            default: return of(a, b);
        }
    }

    /** Numbers that are likely to matter where the state is now, so that runs don't end in BAD and NONE alone. */
    private void fit(String name, int[] args) {
        int things = Math.max(1, model.rule(0));
        if (dice.nextInt(8) == 0) return;
        switch (name) {
            case "thing": case "alter": case "say": case "take": case "when": case "need": case "kinds": case "weights": case "ask":
                args[0] = of(0, things - 1);
                break;
            case "plan":
                args[0] = model.rule(1) + of(0, 12);
                args[1] = of(0, things - 1);
                break;
            case "see":
                args[1] = model.w.path(30)[Math.floorMod(args[0], 31)][0];
                break;
            case "church": case "both":
                int n = of(0, 20);
                args[0] = model.w.path(n)[n][1];
                break;
            case "lay":
                args[0] = of(0, 1);
                args[1] = of(0, 9);
                args[2] = args[1] % 2 == 0 ? of(0, 99) : of(0, things - 1);
                break;
            case "read":
                args[0] = of(0, 1);
                args[2] = 2 * of(0, 3) + (dice.nextInt(6) == 0 ? 1 : 0);
                args[3] = of(0, 4);
                break;
            case "minutes":
                args[0] = dice.nextInt(4) == 0 ? args[0] : of(0, 5);
                break;
            default:
        }
    }

    private static String[] lot(Random dice) {
        int sum = 0;
        for (String s : CALLS_BY_BOUNDS) sum += Integer.parseInt(s.split(" ")[1]);
        int k = dice.nextInt(sum);
        for (String s : CALLS_BY_BOUNDS) {
            k -= Integer.parseInt(s.split(" ")[1]);
            if (k < 0) return s.split(" ");
        }
        throw new IllegalStateException();
    }

    /** Some runs begin where calls are about to be FULL. */
    private void beginAtAnEnd(int which) throws Exception {
        if (which == 0) {
            for (int n = 0; n < 33; n++) call("minutes", 30);
        } else if (which == 1) {
            for (int n = 0; n < 155; n++) call("feed", n < 70 ? "rate 1;".charAt(n % 7) : ' ');
        }
        compareAll();
    }

    private boolean run() throws Exception {
        tellText();
        beginAtAnEnd(dice.nextInt(12));
        for (int t = 0; t < CALLS && wrong == 0; t++) {
            if (dice.nextInt(150) == 0) {
                tellText();
                continue;
            }
            String[] row = lot(dice);
            int[] args = new int[(row.length - 2) / 2];
            for (int k = 0; k < args.length; k++) {
                args[k] = number(Integer.parseInt(row[2 + 2 * k]), Integer.parseInt(row[3 + 2 * k]));
            }
            fit(row[0], args);
            call(row[0], args);
            compareAll();
        }
        return wrong == 0;
    }

    public static void main(String[] args) throws Exception {
        for (int seed = 0; seed < RUNS; seed++) {
            ModelTest test = new ModelTest(seed);
            if (!test.run()) {
                System.out.println("seed " + seed + ", the last calls:");
                for (int k = Math.max(0, test.told.size() - 20); k < test.told.size(); k++) System.out.println("  " + test.told.get(k));
                System.exit(1);
            }
        }
        if (args.length > 0) answered.forEach((k, v) -> System.out.println(k + ": " + v));
        System.out.println(RUNS + " runs are as the model's");
    }
}
