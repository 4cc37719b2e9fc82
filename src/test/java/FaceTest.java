import java.io.IOException;
import java.lang.reflect.Constructor;
import java.lang.reflect.Field;
import java.lang.reflect.Method;
import java.lang.reflect.Modifier;
import java.nio.file.Files;
import java.nio.file.Path;
import java.util.Arrays;
import java.util.Set;
import java.util.TreeSet;

/** The public face, and those rules of the language that show in the class or in its text. */
final class FaceTest {
    private static final Check check = new Check();
    private static final Set<String> FACE = new TreeSet<>(Arrays.asList(
        "int pair(int, int, int, int)", "int clear()", "int make(int)", "int strong(int, int)",
        "int then(int, int, int)", "int turn(int, int)", "int power(int, int, int)", "int drop(int)",
        "int leaves(int)", "int sort(int)", "int leaf(int, int, int)", "int same(int, int)",
        "int commute(int, int)", "int order(int)", "int length(int)", "int ball(int)",
        "int go(int, int, long)", "long seen(int)", "int bend(int, int)", "int still(int)",
        "int single(int)", "long point(int, int, int)", "int count(int)", "long digest()"));

    public static void main(String[] args) throws IOException {
        constants();
        methods();
        members();
        text();
        check.end();
    }

    private static void constants() {
        check.due("NONE", TreePairs.NONE, -1);
        check.due("UNKNOWN", TreePairs.UNKNOWN, -101);
        check.due("OUTSIDE", TreePairs.OUTSIDE, -102);
        check.due("STATE", TreePairs.STATE, -103);
        check.due("FULL", TreePairs.FULL, -104);
    }

    private static void methods() {
        Set<String> open = new TreeSet<>();
        Set<String> names = new TreeSet<>();
        for (Method m : TreePairs.class.getDeclaredMethods()) {
            if (Modifier.isPublic(m.getModifiers())) {
                String takes = Arrays.toString(m.getParameterTypes()).replace("[", "(").replace("]", ")");
                open.add(m.getReturnType() + " " + m.getName() + takes);
                names.add(m.getName());
            }
        }
        if (!open.equals(FACE)) {
            System.out.println("the face is " + open);
        }
        check.holds("the methods of the face and no others", open.equals(FACE));
        for (Method m : TreePairs.class.getDeclaredMethods()) {
            if (!Modifier.isPublic(m.getModifiers())) {
                check.holds(m.getName() + " is private", Modifier.isPrivate(m.getModifiers()));
                check.holds(m.getName() + " bears no public name", !names.contains(m.getName()));
            }
            check.holds(m.getName() + " takes seven at most", m.getParameterCount() <= 7);
        }
    }

    private static void members() {
        int mods = TreePairs.class.getModifiers();
        check.holds("public and final", Modifier.isPublic(mods) && Modifier.isFinal(mods));
        Set<String> open = new TreeSet<>();
        for (Field f : TreePairs.class.getDeclaredFields()) {
            if (Modifier.isPublic(f.getModifiers())) {
                open.add(f.getName());
            } else {
                check.holds(f.getName() + " is private", Modifier.isPrivate(f.getModifiers()));
            }
            if (Modifier.isStatic(f.getModifiers())) {
                check.holds(f.getName() + " is final", Modifier.isFinal(f.getModifiers()));
            }
        }
        check.holds("the constants of the face and no others",
            open.equals(Set.of("NONE", "UNKNOWN", "OUTSIDE", "STATE", "FULL")));
        Constructor<?>[] makers = TreePairs.class.getDeclaredConstructors();
        check.holds("one public constructor", makers.length == 1 && Modifier.isPublic(makers[0].getModifiers()));
        for (Class<?> inner : TreePairs.class.getDeclaredClasses()) {
            check.holds(inner.getName() + " is static", Modifier.isStatic(inner.getModifiers()));
        }
    }

    private static void text() throws IOException {
        String text = Files.readString(Path.of("src/main/java/TreePairs.java"));
        String[] banned = {"try", "catch", "throw", "finally", "assert", "synchronized", "->", "::", "package ",
            "@Override", "System.", "Exact(", "random", "float", "double", "hashCode", "toString"};
        for (String word : banned) {
            check.holds("no " + word, !text.contains(word));
        }
        for (String line : text.split("\n")) {
            if (line.startsWith("import ")) {
                check.holds(line, line.equals("import java.util.ArrayList;") || line.equals("import java.util.List;"));
            }
        }
    }
}
