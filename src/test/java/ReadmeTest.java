import java.io.File;
import java.lang.reflect.Modifier;
import java.net.URL;
import java.net.URLClassLoader;
import java.nio.file.Files;
import java.nio.file.Path;
import java.util.ArrayList;
import java.util.List;
import java.util.Set;
import java.util.TreeSet;
import java.util.regex.Matcher;
import java.util.regex.Pattern;
import java.util.stream.Stream;
import javax.tools.JavaCompiler;
import javax.tools.ToolProvider;

/** What README.md shows holds: its calls answer as it says, and it tells how .ci/run goes; run where src/ is. */
public final class ReadmeTest {
    private static final Pattern ANSWERED = Pattern.compile("\\s*(x\\.\\w+\\([^;]*\\));\\s*// (-?\\d+|BAD|STATE|FULL|NONE)\\b.*");
    private static int wrong = 0, answers = 0;

    private static void wrong(String what) {
        wrong++;
        System.out.println(what);
    }

    /** Called by the program that README.md's lines become. */
    public static void due(String call, long got, long want) {
        answers++;
        if (got != want) wrong(call + " answered " + got + ", README.md says " + want);
    }

    private static List<String> linesOf(String readme, String language) {
        List<String> lines = new ArrayList<>();
        Matcher block = Pattern.compile("(?ms)^```" + language + "\n(.*?)^```$").matcher(readme);
        while (block.find()) lines.addAll(List.of(block.group(1).split("\n")));
        return lines;
    }

    private static String program(List<String> lines) {
        StringBuilder s = new StringBuilder("public final class Shown {\npublic static void main(String[] args) {\n");
        for (String line : lines) {
            Matcher m = ANSWERED.matcher(line);
            if (m.matches()) {
                String want = Character.isLetter(m.group(2).charAt(0)) ? "UnsaidBallast." + m.group(2) : m.group(2);
                s.append("ReadmeTest.due(\"").append(m.group(1)).append("\", ").append(m.group(1)).append(", ").append(want).append(");\n");
            } else {
                if (line.trim().startsWith("x.")) wrong("no answer is told: " + line);
                s.append(line).append('\n');
            }
        }
        return s.append("}\n}\n").toString();
    }

    private static void calls(String readme) throws Exception {
        Path folder = Files.createTempDirectory("readme");
        Path source = folder.resolve("Shown.java");
        try {
            Files.writeString(source, program(linesOf(readme, "java")));
            JavaCompiler compiler = ToolProvider.getSystemJavaCompiler();
            int code = compiler.run(null, null, null, "-encoding", "UTF-8", "-cp", System.getProperty("java.class.path"),
                "-d", folder.toString(), source.toString());
            if (code != 0) {
                wrong("what README.md shows does not compile");
                return;
            }
            try (URLClassLoader loader = new URLClassLoader(new URL[] {folder.toUri().toURL()}, ReadmeTest.class.getClassLoader())) {
                loader.loadClass("Shown").getMethod("main", String[].class).invoke(null, (Object) new String[0]);
            }
        } finally {
            for (File f : folder.toFile().listFiles()) f.delete();
            Files.delete(folder);
        }
    }

    private static void everyCallIsShown(String readme) {
        String shown = String.join("\n", linesOf(readme, "java"));
        Set<String> names = new TreeSet<>();
        for (java.lang.reflect.Method m : UnsaidBallast.class.getDeclaredMethods()) {
            if (Modifier.isPublic(m.getModifiers())) names.add(m.getName());
        }
        for (String name : names) {
            if (!Pattern.compile("\\bx\\." + name + "\\(").matcher(shown).find()) wrong("README.md does not show " + name + "()");
        }
    }

    private static void everyTestIsNamed(String readme) throws Exception {
        Set<String> there = new TreeSet<>();
        try (Stream<Path> files = Files.list(Path.of("src/test/java"))) {
            files.map(f -> f.getFileName().toString()).filter(f -> f.endsWith("Test.java"))
                .forEach(f -> there.add(f.replace(".java", "")));
        }
        Set<String> named = new TreeSet<>();
        Matcher m = Pattern.compile("(?m)^- `(\\w+Test)`:").matcher(readme);
        while (m.find()) named.add(m.group(1));
        if (!there.equals(named)) wrong("README.md names the tests " + named + ", there are " + there);
    }

    /** The commands by which README.md compiles and runs one test are those of .ci/run, with its names put in. */
    private static void commandsAreThoseOfTheScript(String readme) throws Exception {
        List<String> lines = linesOf(readme, "sh");
        if (lines.isEmpty() || !lines.get(0).equals(".ci/run")) wrong("README.md does not say to run .ci/run");
        if (!Files.isExecutable(Path.of(".ci/run"))) wrong(".ci/run can't be run");
        String script = Files.readString(Path.of(".ci/run"));
        Matcher compiles = Pattern.compile("(javac .*?-d )\"\\$folder\" \"\\$@\"").matcher(script);
        Matcher runs = Pattern.compile("(java -cp )\"\\$folder\" \"\\$name\"").matcher(script);
        if (!compiles.find() || !runs.find()) {
            wrong(".ci/run does not compile and run a test as it did when this was written");
            return;
        }
        if (!script.contains("main=src/main/java/UnsaidBallast.java") || !script.contains("\"$main\" src/test/java/*.java")) {
            wrong(".ci/run compiles other files");
        }
        String javac = compiles.group(1) + "out src/main/java/UnsaidBallast.java src/test/java/*.java";
        if (!lines.contains(javac)) wrong("README.md does not show: " + javac);
        int shown = 0;
        for (String line : lines) {
            if (line.equals(".ci/run") || line.equals(javac)) continue;
            shown++;
            if (!line.matches(Pattern.quote(runs.group(1) + "out ") + "\\w+Test( x)?")) wrong("not as .ci/run goes: " + line);
        }
        if (shown == 0) wrong("README.md does not show how one test is run");
    }

    public static void main(String[] args) throws Exception {
        String readme = Files.readString(Path.of("README.md"));
        calls(readme);
        everyCallIsShown(readme);
        everyTestIsNamed(readme);
        commandsAreThoseOfTheScript(readme);
        System.out.println("README.md: " + answers + " answers were asked, " + wrong + " things are not as it says");
        if (wrong != 0 || answers == 0) System.exit(1);
    }
}
