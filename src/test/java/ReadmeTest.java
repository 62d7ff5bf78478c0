import java.io.IOException;
import java.lang.reflect.Method;
import java.lang.reflect.Modifier;
import java.nio.file.Files;
import java.nio.file.Path;
import java.util.ArrayList;
import java.util.HashMap;
import java.util.List;
import java.util.Map;
import java.util.Random;
import java.util.Set;
import java.util.TreeMap;
import java.util.TreeSet;
import java.util.regex.Matcher;
import java.util.regex.Pattern;

/** What README.md says of the class: each call of its examples is made, each row of its tables is looked at. */
public final class ReadmeTest {
    private static final Pattern BLOCK = Pattern.compile("(?s)```java\n(.*?)```");
    private static final Pattern CALL = Pattern.compile("x\\.(\\w+)\\((.*?)\\); +// (-?\\w+)(:.*)?");
    private static final Pattern ROW = Pattern.compile("(?m)^\\| `(\\w+)\\((.*?)\\)` \\|.*\\|([^|]*)\\|([^|]*)\\|$");
    private static final Pattern REFUSAL = Pattern.compile("(?m)^\\| (-\\d) \\| `(\\w+)` \\|");
    private static final Pattern CONSTANT = Pattern.compile("`([A-Z]+)`");
    private static final int RUNS = 2000, CALLS = 300;

    private final Map<String, Method> face = new TreeMap<>();
    private final Map<String, Set<Integer>> refused = new HashMap<>();
    private final String text;

    private ReadmeTest(String text) {
        this.text = text;
        for (Method m : DiagramBench.class.getDeclaredMethods()) {
            if (Modifier.isPublic(m.getModifiers())) {
                face.put(m.getName(), m);
                refused.put(m.getName(), new TreeSet<>());
            }
        }
    }

    public static void main(String[] args) throws IOException, ReflectiveOperationException {
        ReadmeTest test = new ReadmeTest(Files.readString(Path.of("README.md")));
        test.examples();
        test.refusalNumbers();
        test.makeAnyCalls();
        test.table();
        test.testsNamed();
        Due.end();
    }

    /** Each block is a run of calls on a new object, with the answer behind each. */
    private void examples() throws ReflectiveOperationException {
        int calls = 0;
        Matcher block = BLOCK.matcher(text);
        while (block.find()) {
            DiagramBench x = new DiagramBench();
            for (String line : block.group(1).split("\n")) {
                Matcher call = CALL.matcher(line);
                boolean told = call.matches() && face.containsKey(call.group(1));
                Due.holds("a call with its answer: " + line, told);
                if (told) {
                    Method m = face.get(call.group(1));
                    Due.due(line, (int) m.invoke(x, arguments(m, call.group(2))), number(call.group(3)));
                    calls++;
                }
            }
        }
        Due.holds("there are examples", calls > 20);
    }

    private static Object[] arguments(Method m, String list) {
        String[] parts = list.isEmpty() ? new String[0] : list.split(", ");
        Object[] all = new Object[parts.length];
        for (int i = 0; i < parts.length; i++) {
            all[i] = m.getParameterTypes()[i] == boolean.class ? (Object) Boolean.valueOf(parts[i]) : Integer.valueOf(parts[i]);
        }
        return all;
    }

    private static int number(String word) throws ReflectiveOperationException {
        return word.matches("-?\\d+") ? Integer.parseInt(word) : DiagramBench.class.getField(word).getInt(null);
    }

    private void refusalNumbers() throws ReflectiveOperationException {
        int rows = 0;
        Matcher row = REFUSAL.matcher(text);
        while (row.find()) {
            Due.due(row.group(2), number(row.group(2)), Integer.parseInt(row.group(1)));
            rows++;
        }
        Due.due("refusals told", rows, 5);
        Due.holds("NONE", text.contains("`NONE` (" + DiagramBench.NONE + ")"));
    }

    /** Notes which numbers below 0 each call answers, in nets of some gates and rooms of some nodes. */
    private void makeAnyCalls() throws ReflectiveOperationException {
        List<Method> all = new ArrayList<>(face.values());
        for (int run = 0; run < RUNS; run++) {
            Random random = new Random(31L * run + 7);
            DiagramBench x = someBench(run, random);
            for (int n = 0; n < CALLS; n++) {
                Method m = all.get(random.nextInt(all.size()));
                boolean rare = m.getName().equals("clear") || m.getName().equals("room");
                if (!rare || random.nextInt(10) == 0) {
                    int answer = (int) m.invoke(x, anyArguments(m, random));
                    if (answer < 0) {
                        refused.get(m.getName()).add(answer);
                    }
                }
            }
        }
    }

    private static DiagramBench someBench(int run, Random random) {
        DiagramBench x = new DiagramBench();
        if (run % 3 == 0) {
            Edge.fillNet(x, 0);
        }
        for (int v = 0; v < 4; v++) {
            x.gate(1, 0, v, 0, 0);
            x.gate(2, 0, v, 0, 0);
            x.variable(v, v);
            x.combine(3, 4 + random.nextInt(6), 3, v);
        }
        for (int h = 0; h < 3 && run % 2 == 0; h++) {
            x.drop(h);
        }
        x.room(x.inUse() + random.nextInt(4));
        return x;
    }

    private static Object[] anyArguments(Method m, Random random) {
        Object[] all = new Object[m.getParameterCount()];
        for (int i = 0; i < all.length; i++) {
            boolean truth = m.getParameterTypes()[i] == boolean.class;
            int bound = random.nextInt(3) == 0 ? 14 : 4;
            all[i] = truth ? (Object) random.nextBoolean() : Integer.valueOf(random.nextInt(bound) - random.nextInt(2));
        }
        return all;
    }

    /** A row for each call of the face; the numbers below 0 that it may answer are those that were answered. */
    private void table() throws ReflectiveOperationException {
        Set<String> rows = new TreeSet<>();
        Matcher row = ROW.matcher(text);
        while (row.find()) {
            String name = row.group(1);
            Due.holds("one row for " + name, rows.add(name));
            if (face.containsKey(name)) {
                int parameters = row.group(2).isEmpty() ? 0 : row.group(2).split(", ").length;
                Due.due("parameters of " + name, parameters, face.get(name).getParameterCount());
                Set<Integer> told = new TreeSet<>();
                Matcher constant = CONSTANT.matcher(row.group(3) + row.group(4));
                while (constant.find()) {
                    told.add(number(constant.group(1)));
                }
                Due.holds(name + " answers " + refused.get(name) + " below 0, told are " + told, told.equals(refused.get(name)));
            }
        }
        Due.holds("a row for each of " + face.keySet() + ", not " + rows, rows.equals(face.keySet()));
    }

    private void testsNamed() throws IOException {
        try (var files = Files.list(Path.of("src/test/java"))) {
            for (Path file : (Iterable<Path>) files::iterator) {
                String name = file.getFileName().toString().replace(".java", "");
                if (name.endsWith("Test")) {
                    boolean named = text.contains("`" + name + "`") || name.startsWith("EdgesOf") && text.contains("`EdgesOf...Test`");
                    Due.holds("README.md names " + name, named);
                }
            }
        }
    }
}
