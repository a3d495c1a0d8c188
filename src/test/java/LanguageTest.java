import java.lang.reflect.Constructor;
import java.lang.reflect.Field;
import java.lang.reflect.Method;
import java.lang.reflect.Modifier;
import java.nio.file.Files;
import java.nio.file.Path;
import java.util.ArrayList;
import java.util.List;
import java.util.Map;
import java.util.TreeMap;
import java.util.TreeSet;
import java.util.regex.Matcher;
import java.util.regex.Pattern;

/** The face that the document tells, and those rules of LANGUAGE.md that a text or a class file shows. */
public final class LanguageTest {
    private static final Check check = new Check();
    private static final String[] FACE = {
        "set 2", "hill 1", "sheep 2", "of 2", "change 3", "drop 0", "who 1", "go 1", "now 1", "ahead 3",
        "later 2", "when 2", "home 0", "panic 2", "standFor 1", "foldFor 1", "kindFor 2", "paceFor 2",
        "tether 1", "fits 2", "kinds 2", "nights 1", "odds 3", "seed 1", "feed 2", "wipe 0", "text 0",
        "hold 2", "as 2", "sheet 3", "write 3", "copy 5", "load 1", "judge 1", "image 0", "undo 0",
        "tear 0", "count 1", "status 1"
    };

    public static void main(String[] args) throws Exception {
        face();
        members();
        words();
        Map<String, String> bodies = bodies();
        everyMethod(bodies);
        methodLengths(bodies);
        depths(bodies);
        objects(bodies);
        check.end();
    }

    private static void face() {
        TreeSet<String> due = new TreeSet<>(List.of(FACE));
        TreeSet<String> got = new TreeSet<>();
        for (Method m : StraySheep.class.getDeclaredMethods()) {
            if (Modifier.isPublic(m.getModifiers())) {
                got.add(m.getName() + " " + m.getParameterCount());
                check.yes("rule 1: type of " + m.getName(),
                        m.getReturnType() == (m.getName().equals("odds") ? long.class : int.class));
                for (Class<?> p : m.getParameterTypes()) {
                    check.yes("rule 1: parameters of " + m.getName(), p == int.class);
                }
            }
        }
        check.yes("rule 1: the face is " + got, due.equals(got));
        check.yes("rule 1: public and final", Modifier.isPublic(StraySheep.class.getModifiers())
                && Modifier.isFinal(StraySheep.class.getModifiers()));
        Constructor<?>[] made = StraySheep.class.getDeclaredConstructors();
        check.yes("rule 1: one public constructor without parameters", made.length == 1
                && Modifier.isPublic(made[0].getModifiers()) && made[0].getParameterCount() == 0);
    }

    private static TreeSet<String> publicNames() {
        TreeSet<String> names = new TreeSet<>();
        for (String f : FACE) {
            names.add(f.substring(0, f.indexOf(' ')));
        }
        return names;
    }

    private static void members() {
        TreeSet<String> publicNames = publicNames();
        List<Class<?>> classes = new ArrayList<>(List.of(StraySheep.class.getDeclaredClasses()));
        check.yes("rule 11: classes", classes.size() < 12);
        for (Class<?> c : classes) {
            check.yes("rule 2: static " + c, Modifier.isStatic(c.getModifiers()));
            check.yes("rule 1: not public " + c, !Modifier.isPublic(c.getModifiers()));
        }
        for (Method m : StraySheep.class.getDeclaredMethods()) {
            check.yes("rule 1: " + m, Modifier.isPublic(m.getModifiers()) || Modifier.isPrivate(m.getModifiers()));
        }
        for (Field f : StraySheep.class.getDeclaredFields()) {
            check.yes("rule 1: " + f, Modifier.isPrivate(f.getModifiers()));
        }
        classes.add(StraySheep.class);
        for (Class<?> c : classes) {
            int fields = 0;
            for (Field f : c.getDeclaredFields()) {
                boolean isStatic = Modifier.isStatic(f.getModifiers());
                check.yes("rule 5: " + f, !isStatic || Modifier.isFinal(f.getModifiers()));
                fields += isStatic ? 0 : 1;
            }
            check.yes("rule 11: fields of " + c, fields <= 20);
            for (Method m : c.getDeclaredMethods()) {
                check.yes("rule 11: parameters of " + m, m.getParameterCount() <= 7);
                check.yes("rule 1: name of " + m,
                        Modifier.isPublic(m.getModifiers()) || !publicNames.contains(m.getName()));
            }
        }
    }

    private static String source() throws Exception {
        return Files.readString(Path.of("src/main/java/StraySheep.java"));
    }

    private static void words() throws Exception {
        String bare = source().replaceAll("(?s)/\\*.*?\\*/", " ").replaceAll("//[^\n]*", " ")
                .replaceAll("\"[^\"\n]*\"", "\"\"");
        String[] banned = {"import", "package", "throw", "throws", "try", "catch", "finally", "synchronized",
            "assert", "Exact", "->", "::", "Random", "System.in", "System.out", "currentTimeMillis", "nanoTime",
            "Thread", "var", "hashCode", "toString", "double", "float", "Object"};
        for (String word : banned) {
            Pattern p = Pattern.compile(Character.isLetter(word.charAt(0)) ? "\\b" + Pattern.quote(word) + "\\b"
                    : Pattern.quote(word));
            check.yes("rules 3 to 13: no " + word, !p.matcher(bare).find());
        }
        TreeSet<String> used = new TreeSet<>();
        Matcher m = Pattern.compile("\\b(Math|Integer|Long|System|Arrays)\\.(\\w+)").matcher(bare);
        while (m.find()) {
            used.add(m.group());
        }
        used.removeAll(List.of("Math.min", "Math.max", "Integer.bitCount", "System.arraycopy"));
        check.yes("rule 4: the library is used for " + used, used.isEmpty());
    }

    /** That the text's methods, which the next tests read, are all those of the classes. */
    private static void everyMethod(Map<String, String> bodies) {
        TreeSet<String> due = new TreeSet<>();
        List<Class<?>> classes = new ArrayList<>(List.of(StraySheep.class.getDeclaredClasses()));
        classes.add(StraySheep.class);
        for (Class<?> c : classes) {
            for (Method m : c.getDeclaredMethods()) {
                due.add(m.getName());
            }
        }
        due.add("StraySheep");
        check.yes("the methods found are " + bodies.keySet(), due.equals(bodies.keySet()));
    }

    /** Lines between a method's head and its closing brace. */
    private static void methodLengths(Map<String, String> bodies) {
        for (Map.Entry<String, String> m : bodies.entrySet()) {
            check.yes("rule 11: length of " + m.getKey(), m.getValue().split("\n").length < 60);
        }
    }

    /** Rules 8 and 11: what a call of the face opens, itself counted. */
    private static void depths(Map<String, String> bodies) {
        for (String name : publicNames()) {
            List<String> open = deepest(name, bodies, new ArrayList<>());
            check.yes("rules 8 and 11: calls open at once " + open, open.size() <= 8);
        }
    }

    /** The longest chain of methods of the program behind those that are open; one that comes again ends it. */
    private static List<String> deepest(String name, Map<String, String> bodies, List<String> open) {
        List<String> here = new ArrayList<>(open);
        here.add(name);
        check.yes("rule 8: no recursion, " + here, !open.contains(name));
        if (open.contains(name)) {
            return here;
        }
        List<String> longest = here;
        Matcher call = Pattern.compile("(\\w+)\\(").matcher(bodies.get(name));
        TreeSet<String> called = new TreeSet<>();
        while (call.find()) {
            called.add(call.group(1));
        }
        called.retainAll(bodies.keySet());
        for (String next : called) {
            List<String> way = deepest(next, bodies, here);
            longest = way.size() > longest.size() ? way : longest;
        }
        return longest;
    }

    /** Rule 12, kept more strictly: only an object's fields make objects, no call does. */
    private static void objects(Map<String, String> bodies) {
        for (Map.Entry<String, String> m : bodies.entrySet()) {
            boolean makes = Pattern.compile("\\bnew\\b|\\.clone\\(").matcher(m.getValue()).find();
            check.yes("rule 12: " + m.getKey() + " makes no object", !makes);
        }
    }

    /** What stands between the braces of each method, by its name; heads and ends are told by their indents. */
    private static Map<String, String> bodies() throws Exception {
        Map<String, String> bodies = new TreeMap<>();
        String name = "";
        String indent = "";
        StringBuilder body = new StringBuilder();
        for (String line : source().split("\n")) {
            Matcher head = Pattern.compile("^(    |        )\\w[^=;(]*\\b(\\w+)\\([^=;]*\\) \\{$").matcher(line);
            if (name.isEmpty() && head.find()) {
                indent = head.group(1);
                name = head.group(2);
                body.setLength(0);
            } else if (!name.isEmpty() && line.equals(indent + "}")) {
                check.yes("one method alone is named " + name, bodies.put(name, body.toString()) == null);
                name = "";
            } else {
                body.append(line).append('\n');
            }
        }
        return bodies;
    }
}
