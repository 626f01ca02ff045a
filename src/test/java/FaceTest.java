import java.lang.reflect.Constructor;
import java.lang.reflect.Field;
import java.lang.reflect.Member;
import java.lang.reflect.Method;
import java.lang.reflect.Modifier;
import java.util.Set;
import java.util.TreeSet;

/** The public face is the document's, to the letter, and nothing else can be seen from outside. */
public final class FaceTest {
    private static final String[] METHODS = {
        "int feed 1", "int end 1", "int text 0", "int fault 0", "int rule 1", "int thing 2", "int wind 1", "int saying 2",
        "int alter 3", "int blow 2", "int rate 1", "int say 1", "int take 1", "int plan 2", "int cut 1",
        "int minutes 1", "int runs 2", "int falls 0", "int church 1",
        "int best 1", "int both 2", "int when 4", "int steer 4", "int hush 2", "int swap 1", "int need 3",
        "long luck 4", "long mean 3",
        "int see 2", "int forget 1", "int kinds 1", "int weights 1", "int saids 1", "int ask 2",
        "int drift 3", "int keep 1", "int back 1", "int sheet 3", "int lay 3", "int read 4", "int torn 0", "int count 1"};
    private static int wrong = 0;

    private static void wrong(String what) {
        wrong++;
        System.out.println(what);
    }

    private static boolean isSeen(Member m) {
        return !Modifier.isPrivate(m.getModifiers()) && !m.isSynthetic();
    }

    private static void methods(Class<?> face) {
        Set<String> due = new TreeSet<>(Set.of(METHODS));
        Set<String> names = new TreeSet<>();
        for (String s : METHODS) names.add(s.split(" ")[1]);
        for (Method m : face.getDeclaredMethods()) {
            if (m.isSynthetic()) continue;
            if (!isSeen(m)) {
                if (names.contains(m.getName())) wrong("a private method bears a public name: " + m);
                continue;
            }
            for (Class<?> p : m.getParameterTypes()) if (p != int.class) wrong("not an int: " + m);
            if (!Modifier.isPublic(m.getModifiers()) || Modifier.isStatic(m.getModifiers())) wrong("not as told: " + m);
            String row = m.getReturnType() + " " + m.getName() + " " + m.getParameterCount();
            if (!due.remove(row)) wrong("not in the document: " + row);
        }
        for (String s : due) wrong("missing: " + s);
        for (Class<?> inner : face.getDeclaredClasses()) {
            if (!Modifier.isStatic(inner.getModifiers())) wrong("not static: " + inner);
            for (Method m : inner.getDeclaredMethods()) {
                if (names.contains(m.getName())) wrong("bears a public name: " + m);
                if (m.getParameterCount() > 7) wrong("too many parameters: " + m);
            }
            int fields = 0;
            for (Field f : inner.getDeclaredFields()) if (!Modifier.isStatic(f.getModifiers())) fields++;
            if (fields > 20) wrong("too many fields: " + inner);
        }
        if (face.getDeclaredClasses().length > 11) wrong("too many classes");
    }

    private static void constants(Class<?> face) throws Exception {
        String[] names = {"BAD", "STATE", "FULL", "NONE"};
        for (int k = 0; k < names.length; k++) {
            Field f = face.getField(names[k]);
            int m = f.getModifiers();
            if (!Modifier.isStatic(m) || !Modifier.isFinal(m) || f.getInt(null) != -1 - k) wrong("not as told: " + f);
        }
        int seen = 0;
        for (Field f : face.getDeclaredFields()) if (isSeen(f)) seen++;
        if (seen != names.length) wrong(seen + " fields are seen");
    }

    /** No static state: constants alone, here and in the classes inside. */
    private static void statics(Class<?> face) {
        Set<Class<?>> types = Set.of(int.class, long.class, boolean.class, char.class, String.class);
        for (Field f : face.getDeclaredFields()) {
            int m = f.getModifiers();
            if (Modifier.isStatic(m) && (!Modifier.isFinal(m) || !types.contains(f.getType()))) wrong("no constant: " + f);
        }
        for (Class<?> inner : face.getDeclaredClasses()) statics(inner);
    }

    public static void main(String[] args) throws Exception {
        Class<?> face = UnsaidBallast.class;
        if (!Modifier.isFinal(face.getModifiers()) || !Modifier.isPublic(face.getModifiers())) wrong("not public and final");
        Constructor<?>[] makers = face.getDeclaredConstructors();
        if (makers.length != 1 || makers[0].getParameterCount() != 0 || !Modifier.isPublic(makers[0].getModifiers())) wrong("the constructor");
        methods(face);
        constants(face);
        statics(face);
        System.out.println(wrong == 0 ? "the face is the document's" : wrong + " things are not as told");
        if (wrong != 0) System.exit(1);
    }
}
