import java.io.IOException;
import java.lang.reflect.Constructor;
import java.lang.reflect.Field;
import java.lang.reflect.Method;
import java.lang.reflect.Modifier;
import java.nio.file.Files;
import java.nio.file.Path;
import java.util.ArrayList;
import java.util.List;
import java.util.Set;
import java.util.TreeSet;
import java.util.regex.Matcher;
import java.util.regex.Pattern;

/** The document's face, and of LANGUAGE.md what can be seen without running the class. */
public final class LanguageTest {
    private static final Path SOURCE = Path.of("src/main/java/DiagramBench.java");
    private static final String[] FACE = {
        "gate(int, int, int, int, int)", "output(int, int)", "clear(int)", "gives(int, int, int)", "order(int)",
        "move(int, int)", "at(int)", "room(int)", "build(int, int, int)", "variable(int, int)",
        "combine(int, int, int, int)", "choose(int, int, int, int)", "restrict(int, int, int, boolean)",
        "quantify(int, int, int, boolean)", "compose(int, int, int, int)", "share(int, int)", "drop(int)", "nodes(int)",
        "inUse()", "common(int, int)", "peak()", "value(int, int)", "same(int, int)", "count(int)", "support(int)",
        "top(int)", "level(int, int)", "least(int, boolean)", "paths(int, boolean)", "equal(int, int)", "parting(int)",
        "told(int)"};
    private static final String[] CONSTANTS = {"UNKNOWN", "OUTSIDE", "STATE", "FULL", "OUT", "NONE"};
    private static final int[] NUMBERS = {-1, -2, -3, -4, -5, -9};
    private static final String[] BARRED = {"throw", "throws", "try", "catch", "finally", "synchronized", "assert", "volatile",
        "protected", "package", "System", "Thread", "Random", "Object", "Exception"};

    public static void main(String[] args) throws IOException, ReflectiveOperationException {
        face();
        constants();
        membersInside();
        String code = withoutComments(Files.readString(SOURCE));
        words(code);
        madeOnlyWithTheObject(code);
        shortMethods(code);
        Due.end();
    }

    private static void face() {
        Class<?> c = DiagramBench.class;
        Due.holds("public and final", Modifier.isPublic(c.getModifiers()) && Modifier.isFinal(c.getModifiers()));
        Due.holds("no package", c.getPackageName().isEmpty());
        Due.holds("one constructor", c.getDeclaredConstructors().length == 1);
        for (Constructor<?> made : c.getDeclaredConstructors()) {
            Due.holds("public, of nothing", Modifier.isPublic(made.getModifiers()) && made.getParameterCount() == 0);
        }
        Set<String> want = new TreeSet<>(List.of(FACE));
        Set<String> got = new TreeSet<>();
        Set<String> names = new TreeSet<>();
        for (Method m : c.getDeclaredMethods()) {
            if (Modifier.isPublic(m.getModifiers())) {
                List<String> types = new ArrayList<>();
                for (Class<?> type : m.getParameterTypes()) {
                    types.add(type.getName());
                }
                got.add(m.getName() + "(" + String.join(", ", types) + ")");
                names.add(m.getName());
                Due.holds(m + " is an object's and answers an int",
                        m.getReturnType() == int.class && !Modifier.isStatic(m.getModifiers()));
            }
        }
        Due.holds("the methods are " + want + ", not " + got, want.equals(got));
        for (Method m : c.getDeclaredMethods()) {
            if (!Modifier.isPublic(m.getModifiers())) {
                Due.holds(m + " is private", Modifier.isPrivate(m.getModifiers()));
                Due.holds(m + " has a name of its own", !names.contains(m.getName()));
            }
            Due.holds(m + " takes at most seven", m.getParameterCount() <= 7);
        }
    }

    private static void constants() throws ReflectiveOperationException {
        for (int i = 0; i < CONSTANTS.length; i++) {
            Field f = DiagramBench.class.getDeclaredField(CONSTANTS[i]);
            Due.holds(CONSTANTS[i] + " is public", Modifier.isPublic(f.getModifiers()));
            Due.due(CONSTANTS[i], f.getInt(null), NUMBERS[i]);
        }
        int open = 0;
        for (Field f : DiagramBench.class.getDeclaredFields()) {
            open += Modifier.isPrivate(f.getModifiers()) ? 0 : 1;
        }
        Due.due("fields that are not private", open, CONSTANTS.length);
    }

    private static void membersInside() {
        List<Class<?>> all = new ArrayList<>(List.of(DiagramBench.class.getDeclaredClasses()));
        Due.holds("at most twelve classes", all.size() < 12);
        for (Class<?> inside : all) {
            Due.holds(inside + " is static", Modifier.isStatic(inside.getModifiers()));
            Due.holds(inside + " is not public", !Modifier.isPublic(inside.getModifiers()));
        }
        all.add(DiagramBench.class);
        for (Class<?> c : all) {
            int fields = 0;
            for (Field f : c.getDeclaredFields()) {
                boolean fixed = Modifier.isStatic(f.getModifiers());
                Due.holds(f + " is final if static", !fixed || Modifier.isFinal(f.getModifiers()));
                fields += fixed ? 0 : 1;
            }
            Due.holds(c + " has some twenty fields", fields <= 20);
        }
    }

    private static String withoutComments(String text) {
        return text.replaceAll("(?s)/\\*.*?\\*/", " ").replaceAll("//[^\n]*", " ");
    }

    private static void words(String code) {
        for (String word : BARRED) {
            Due.holds("no " + word, !Pattern.compile("\\b" + word + "\\b").matcher(code).find());
        }
        Due.holds("no lambda", !code.contains("->"));
        Due.holds("no method reference", !code.contains("::"));
        Matcher imports = Pattern.compile("import ([^;]*);").matcher(code);
        while (imports.find()) {
            Due.holds("import of " + imports.group(1), imports.group(1).equals("java.util.Arrays"));
        }
    }

    /** All calls of a run share one room: rows are made with the object, and no call makes any. */
    private static void madeOnlyWithTheObject(String code) {
        for (String line : code.split("\n")) {
            if (line.contains("new ")) {
                boolean withObject = line.matches(" +private final .* = new .*") || line.trim().equals("nets[n] = new Net();");
                Due.holds("made with the object: " + line.trim(), withObject);
            }
        }
    }

    private static void shortMethods(String code) {
        String[] lines = code.split("\n", -1);
        for (int i = 0; i < lines.length; i++) {
            Matcher head = Pattern.compile("^( +)(?:public |private |static )*\\w+(?:\\[\\])? ?\\w*\\([^;]*\\) \\{$").matcher(lines[i]);
            if (head.matches() && !lines[i].trim().matches("(if|for|while|switch|else|\\}).*")) {
                int end = i;
                while (end < lines.length && !lines[end].equals(head.group(1) + "}")) {
                    end++;
                }
                Due.holds("short: " + lines[i].trim(), end - i <= 60 && end < lines.length);
            }
        }
    }
}
