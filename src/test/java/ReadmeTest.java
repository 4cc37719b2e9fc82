import java.io.IOException;
import java.lang.reflect.InvocationTargetException;
import java.lang.reflect.Method;
import java.lang.reflect.Modifier;
import java.nio.file.Files;
import java.nio.file.Path;
import java.util.ArrayList;
import java.util.HashMap;
import java.util.HashSet;
import java.util.List;
import java.util.Map;
import java.util.Set;
import java.util.TreeMap;
import java.util.TreeSet;
import java.util.regex.Matcher;
import java.util.regex.Pattern;
import java.util.stream.Collectors;
import java.util.stream.Stream;

/** README.md is read, each call on it is made, and its answer is held against what stands there. */
final class ReadmeTest {
    private static final Pattern NEW = Pattern.compile("TreePairs (\\w) = new TreePairs\\(\\);");
    private static final Pattern CALL = Pattern.compile("(\\w)\\.(\\w+)\\(([-\\d, ]*)\\)");
    private static final Pattern LINE = Pattern.compile(" *" + CALL + "; *// (-?\\d+|[A-Z]+|n)(:.*)?");
    private static final Pattern LOOP = Pattern.compile("for \\(int n = 1; n <= (\\d+); n\\+\\+\\) \\{");
    private static final Pattern NUMBER = Pattern.compile("`([A-Z]+)` \\((-\\d+)\\)");
    private static final Pattern TEST = Pattern.compile("`(\\w+Test)`");
    private static final int NO_BEND = -1000;
    private static final int FIRST_COLUMN = 2;

    private static final Check check = new Check();
    private static final Map<String, Method> FACE = face();
    private static final Map<String, Long> NAMES = Map.of("NONE", (long) TreePairs.NONE,
        "UNKNOWN", (long) TreePairs.UNKNOWN, "OUTSIDE", (long) TreePairs.OUTSIDE,
        "STATE", (long) TreePairs.STATE, "FULL", (long) TreePairs.FULL);
    /** Which refusals the document names for each call. */
    private static final Map<String, String> REFUSALS = refusals();

    private final Map<String, TreePairs> objects = new HashMap<>();
    private final Set<String> shown = new TreeSet<>();

    public static void main(String[] args) throws IOException, ReflectiveOperationException {
        List<String> page = Files.readAllLines(Path.of("README.md"));
        ReadmeTest test = new ReadmeTest();
        test.blocks(page);
        test.refused(page);
        numbers(page);
        tests(page);
        check.end();
    }

    private static Map<String, Method> face() {
        Map<String, Method> all = new TreeMap<>();
        for (Method m : TreePairs.class.getDeclaredMethods()) {
            if (Modifier.isPublic(m.getModifiers())) {
                all.put(m.getName(), m);
            }
        }
        return all;
    }

    private static Map<String, String> refusals() {
        Map<String, String> all = new TreeMap<>();
        String[] told = {"pair OUTSIDE FULL", "clear", "make UNKNOWN STATE", "strong UNKNOWN OUTSIDE",
            "then UNKNOWN FULL", "turn UNKNOWN", "power UNKNOWN OUTSIDE FULL", "drop UNKNOWN", "leaves UNKNOWN",
            "sort UNKNOWN", "leaf UNKNOWN OUTSIDE", "same UNKNOWN", "commute UNKNOWN FULL", "order UNKNOWN",
            "length UNKNOWN", "ball OUTSIDE", "go UNKNOWN OUTSIDE", "seen OUTSIDE", "bend UNKNOWN",
            "still UNKNOWN", "single UNKNOWN", "point UNKNOWN OUTSIDE", "count OUTSIDE", "digest"};
        for (String one : told) {
            int end = (one + " ").indexOf(' ');
            all.put(one.substring(0, end), one.substring(end).trim());
        }
        return all;
    }

    /** Every line of every block in Java is made; one that this test can't read is wrong. */
    private void blocks(List<String> page) throws ReflectiveOperationException {
        boolean in = false;
        for (int i = 0; i < page.size(); i++) {
            String line = page.get(i);
            if (line.startsWith("```")) {
                in = line.equals("```java");
            } else if (in && !line.isEmpty()) {
                i += line(page, i);
            }
        }
        check.holds("each call of the face is shown: " + shown, shown.equals(FACE.keySet()));
    }

    /** How many lines beyond this one it took. */
    private int line(List<String> page, int i) throws ReflectiveOperationException {
        Matcher made = NEW.matcher(page.get(i));
        if (made.matches()) {
            objects.put(made.group(1), new TreePairs());
            return 0;
        }
        Matcher loop = LOOP.matcher(page.get(i));
        if (loop.matches()) {
            for (int n = 1; n <= Integer.parseInt(loop.group(1)); n++) {
                shownCall(page.get(i + 1), n);
            }
            check.holds("a loop of one line: " + page.get(i), page.get(i + 2).equals("}"));
            return 2;
        }
        shownCall(page.get(i), 0);
        return 0;
    }

    private void shownCall(String line, int n) throws ReflectiveOperationException {
        Matcher told = LINE.matcher(line);
        check.holds("can be read: " + line, told.matches());
        if (told.matches()) {
            String due = told.group(4);
            long want = due.equals("n") ? n : NAMES.containsKey(due) ? NAMES.get(due) : Long.parseLong(due);
            shown.add(told.group(2));
            check.due(line.trim(), answer(told), want);
        }
    }

    /** What a call answers that CALL has found. */
    private long answer(Matcher call) throws ReflectiveOperationException {
        Method m = FACE.get(call.group(2));
        TreePairs object = objects.get(call.group(1));
        String[] told = call.group(3).isEmpty() ? new String[0] : call.group(3).split(", ");
        if (m == null || object == null || m.getParameterCount() != told.length) {
            check.holds("there is such a call: " + call.group(), false);
            return 0;
        }
        Object[] all = new Object[told.length];
        for (int i = 0; i < told.length; i++) {
            boolean wide = m.getParameterTypes()[i] == long.class;
            all[i] = wide ? (Object) Long.parseLong(told[i]) : (Object) Integer.parseInt(told[i]);
        }
        try {
            return ((Number) m.invoke(object, all)).longValue();
        } catch (InvocationTargetException thrown) {
            check.holds(call.group() + " throws nothing, but " + thrown.getCause(), false);
            return 0;
        }
    }

    /** Each row of the table of refusals: an example for each that the document names, and for no other. */
    private void refused(List<String> page) throws ReflectiveOperationException {
        int head = page.indexOf("| call | `UNKNOWN` | `OUTSIDE` | `STATE` | `FULL` |");
        check.holds("there is a table of refusals", head >= 0);
        String[] columns = {"UNKNOWN", "OUTSIDE", "STATE", "FULL"};
        Set<String> rows = new HashSet<>();
        for (int i = head + 2; head >= 0 && i < page.size() && page.get(i).startsWith("|"); i++) {
            String[] cells = page.get(i).split("\\|", -1);
            String name = cells[1].trim().replace("`", "");
            List<String> found = new ArrayList<>();
            for (int k = 0; k < columns.length; k++) {
                String cell = cells[FIRST_COLUMN + k].trim().replace("`", "");
                if (!cell.isEmpty()) {
                    found.add(columns[k]);
                    refusedCall(name, cell, columns[k]);
                }
            }
            check.holds("the refusals of " + name + ": " + found, String.join(" ", found).equals(REFUSALS.get(name)));
            rows.add(name);
        }
        check.holds("each call of the face has a row", rows.equals(FACE.keySet()));
    }

    private void refusedCall(String name, String cell, String column) throws ReflectiveOperationException {
        Matcher call = CALL.matcher(cell);
        check.holds("an example of " + name + ": " + cell, call.matches() && call.group(2).equals(name));
        if (call.matches() && objects.containsKey(call.group(1))) {
            long before = objects.get(call.group(1)).digest();
            check.due(cell, answer(call), name.equals("bend") ? NO_BEND : NAMES.get(column));
            check.due(cell + " changes nothing", objects.get(call.group(1)).digest(), before);
        }
    }

    /** The numbers that stand behind the names. */
    private static void numbers(List<String> page) {
        Set<String> told = new HashSet<>();
        for (String line : page) {
            Matcher number = NUMBER.matcher(line);
            while (number.find()) {
                told.add(number.group(1));
                check.due(number.group(1), NAMES.getOrDefault(number.group(1), 0L), Long.parseLong(number.group(2)));
            }
        }
        check.holds("each name is told with its number: " + told, told.equals(NAMES.keySet()));
    }

    /** The table of tests names those that there are. */
    private static void tests(List<String> page) throws IOException {
        Set<String> told = new TreeSet<>();
        for (String line : page) {
            Matcher name = TEST.matcher(line);
            while (line.startsWith("|") && name.find()) {
                told.add(name.group(1));
            }
        }
        Set<String> there;
        try (Stream<Path> files = Files.list(Path.of("src/test/java"))) {
            there = files.map(file -> file.getFileName().toString()).filter(name -> name.endsWith("Test.java"))
                .map(name -> name.substring(0, name.indexOf('.'))).collect(Collectors.toCollection(TreeSet::new));
        }
        check.holds("the tests told, " + told + ", are those there, " + there, told.equals(there));
    }
}
