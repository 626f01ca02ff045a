import java.nio.file.Files;
import java.nio.file.Path;
import java.util.Set;
import java.util.regex.Matcher;
import java.util.regex.Pattern;

/** What a reader of the text can tell of ../shared/LANGUAGE.md; run where src/ is. */
public final class LanguageTest {
    private static final Set<String> FORBIDDEN = Set.of("throw", "throws", "try", "catch", "synchronized", "assert", "protected",
        "volatile", "transient", "native", "strictfp", "import static", "hashCode", "toString", "Object", "Object[]",
        "System.out", "Random", "Thread", "addExact", "multiplyExact", "toIntExact", "var");
    private static int wrong = 0;

    private static void wrong(String what) {
        wrong++;
        System.out.println(what);
    }

    private static String withoutComments(String s) {
        return s.replaceAll("(?s)/\\*.*?\\*/", "").replaceAll("//[^\n]*", "").replaceAll("\"[^\"\n]*\"", "\"\"");
    }

    private static void words(String code) {
        Matcher m = Pattern.compile("[A-Za-z_.]+").matcher(code);
        while (m.find()) {
            if (FORBIDDEN.contains(m.group())) wrong("forbidden: " + m.group());
        }
        if (code.contains("->")) wrong("a lambda");
        if (code.contains("::")) wrong("a method reference");
        if (Pattern.compile("static\\s*\\{").matcher(code).find()) wrong("a static initialiser");
        Matcher i = Pattern.compile("(?m)^import (.*);").matcher(code);
        while (i.find()) {
            if (!i.group(1).equals("java.util.Arrays")) wrong("an import: " + i.group(1));
        }
        Matcher l = Pattern.compile("(Arrays|System|Math|Integer|Long)\\.[a-zA-Z]+").matcher(code);
        Set<String> library = Set.of("Arrays.fill", "Math.max", "Math.min", "Math.abs", "Integer.bitCount");
        while (l.find()) {
            if (!library.contains(l.group())) wrong("of the library: " + l.group());
        }
    }

    /** A run's objects live in one room: they are made with the object, by constructors. */
    private static void makesNothing(String[] lines, int from, int to) {
        for (int k = from; k <= to; k++) {
            if (Pattern.compile("\\bnew\\b|\\.clone\\(|copyOf").matcher(lines[k]).find()) wrong("a call makes an object: " + lines[k].trim());
        }
    }

    private static void methods(String code) {
        String[] lines = code.split("\n");
        for (int k = 0; k < lines.length; k++) {
            Matcher m = Pattern.compile("^(\\s+)[A-Za-z].*\\) \\{$").matcher(lines[k]);
            boolean heads = m.matches() && (m.group(1).length() == 4 || m.group(1).length() == 8)
                && !lines[k].trim().matches("(if|for|while|switch|do|else)\\b.*");
            if (!heads) continue;
            int end = k;
            while (!lines[end].equals(m.group(1) + "}")) end++;
            if (end - k > 60) wrong("a long method: " + lines[k]);
            if (!lines[k].trim().matches("(public |private )?[A-Z]\\w*\\(.*")) makesNothing(lines, k, end);
        }
    }

    public static void main(String[] args) throws Exception {
        String text = Files.readString(Path.of("src/main/java/UnsaidBallast.java"));
        for (int p = 0; p < text.length(); p++) {
            if (text.charAt(p) > 126) wrong("a sign beyond 126 at " + p);
        }
        String code = withoutComments(text);
        words(code);
        methods(code);
        System.out.println(wrong == 0 ? "the text keeps to the language" : wrong + " things are against the language");
        if (wrong != 0) System.exit(1);
    }
}
