import java.lang.management.ManagementFactory;
import java.lang.reflect.Field;
import java.lang.reflect.Member;
import java.lang.reflect.Method;
import java.lang.reflect.Modifier;
import java.nio.file.Files;
import java.nio.file.Path;
import java.util.ArrayList;
import java.util.Arrays;
import java.util.List;
import java.util.Map;
import java.util.Set;
import java.util.TreeMap;
import java.util.TreeSet;
import java.util.regex.Matcher;
import java.util.regex.Pattern;

/** The document's face, what of ../shared/LANGUAGE.md can be seen without a compiler of one's own, and what calls make. */
public final class LanguageTest {
    private static final Path SOURCE = Path.of("src/main/java/RelaxedSteps.java");
    private static final String[] FACE = {"int best(int)", "int bundle(int)", "int carryOut()", "int count(int)",
        "int drop(int)", "int fault()", "int item(int,int,int,int)", "int limit(int,int)", "int multiplier(int,int)",
        "int ofDimension(int,int)", "int ofItem(int,int)", "int put(long)", "int repair()", "int repaired(int)",
        "int restore(int)", "int rule(int,int)", "int save(int)", "int step(int)", "int undo()", "int wipe()",
        "int worthOf(int,int)", "long bound(int)", "long boundThen()"};
    private static final String[] CONSTANTS = {"BAD_TEXT", "BAD_VALUE", "FALLING", "FIXED", "NONE", "NOT_POSSIBLE",
        "NO_SUCH", "TARGET", "TOO_MANY"};
    private static final String[] FORBIDDEN = {"\\bthrow", "\\btry\\b", "\\bcatch\\b", "\\bfinally\\b", "\\bsynchronized\\b",
        "\\bassert\\b", "\\bprotected\\b", "->", "::", "Exact\\(", "\\bhashCode\\b", "\\bequals\\b", "\\bRandom\\b",
        "\\bThread\\b", "\\bpackage\\b", "static\\s*\\{", "System\\.(?!arraycopy\\()", "import (?!java\\.util\\.Arrays;)",
        "\\bObject\\b", "\\bstrictfp\\b", "\\bnative\\b", "\\bvolatile\\b", "while \\(true\\)", "for \\(;;\\)"};

    public static void main(String[] args) throws Exception {
        face();
        classes();
        source();
        room();
        Check.finish();
    }

    private static void same(String what, Object got, Object want) {
        Check.holds(what + " are " + want + ", but " + got, got.equals(want));
    }

    private static void face() {
        Check.part("face");
        Set<String> methods = new TreeSet<>();
        Set<String> constants = new TreeSet<>();
        Set<String> names = new TreeSet<>();
        for (Method m : RelaxedSteps.class.getDeclaredMethods()) {
            if (isPublic(m)) {
                methods.add(m.getReturnType() + " " + m.toString().replaceAll(".*RelaxedSteps\\.", ""));
                names.add(m.getName());
            }
        }
        for (Field f : RelaxedSteps.class.getDeclaredFields()) {
            if (isPublic(f)) {
                constants.add(f.getName());
                Check.holds(f + " is constant", f.toString().startsWith("public static final int "));
            }
        }
        same("methods", methods, new TreeSet<>(Arrays.asList(FACE)));
        same("constants", constants, new TreeSet<>(Arrays.asList(CONSTANTS)));
        same("constructors", Arrays.toString(RelaxedSteps.class.getDeclaredConstructors()), "[public RelaxedSteps()]");
        same("the class's modifiers", Modifier.toString(RelaxedSteps.class.getModifiers()), "public final");
        for (Class<?> c : allClasses()) {
            for (Method m : c.getDeclaredMethods()) {
                Check.holds(m + " bears no public name", isPublic(m) || !names.contains(m.getName()));
            }
        }
    }

    private static boolean isPublic(Member member) {
        if (!Modifier.isPublic(member.getModifiers())) {
            Check.holds(member + " is private or in a class inside", Modifier.isPrivate(member.getModifiers())
                || member.getDeclaringClass() != RelaxedSteps.class);
            return false;
        }
        return true;
    }

    private static List<Class<?>> allClasses() {
        List<Class<?>> all = new ArrayList<>(Arrays.asList(RelaxedSteps.class.getDeclaredClasses()));
        all.add(RelaxedSteps.class);
        return all;
    }

    private static void classes() {
        Check.part("classes");
        Check.holds("some twelve classes", allClasses().size() <= 12);
        for (Class<?> c : allClasses()) {
            Check.holds(c + " is static", c == RelaxedSteps.class || Modifier.isStatic(c.getModifiers()));
            int fields = 0;
            for (Field f : c.getDeclaredFields()) {
                boolean isStatic = Modifier.isStatic(f.getModifiers());
                Check.holds(f + " is final", !isStatic || Modifier.isFinal(f.getModifiers()));
                fields += isStatic ? 0 : 1;
            }
            Check.holds(c + " has some twenty fields", fields <= 20);
            for (Method m : c.getDeclaredMethods()) {
                Check.holds(m + " has seven parameters at most", m.getParameterCount() <= 7);
            }
        }
    }

    private static void source() throws Exception {
        Check.part("source");
        String text = Files.readString(SOURCE);
        Check.holds("signs 1 to 127", text.chars().allMatch(sign -> sign > 0 && sign < 128));
        String code = text.replaceAll("(?s)/\\*.*?\\*/", "").replaceAll("//[^\n]*", "").replaceAll("\"[^\"\n]*\"", "\"\"");
        for (String forbidden : FORBIDDEN) {
            Matcher matcher = Pattern.compile(forbidden).matcher(code);
            while (matcher.find()) {
                Check.holds("nothing like " + matcher.group() + " at " + matcher.start(), false);
            }
        }
        Map<String, String> bodies = bodies(code);
        Check.holds("all public methods are seen", bodies.keySet().containsAll(Arrays.asList("item", "boundThen", "restore")));
        for (String name : bodies.keySet()) {
            int deep = depth(name, bodies, new ArrayList<>());
            Check.holds("calls go at most eight deep: " + name + " " + deep, deep <= 8);
        }
        int length = 0;
        for (String line : code.split("\n")) {
            length = line.matches(" {4}( {4})?\\}") ? 0 : line.endsWith(") {") && line.matches(" {4}( {4})?\\S.*") ? 1 : length + 1;
            Check.holds("a method of sixty lines at most: " + line, line.contains("class ") || length <= 60);
        }
    }

    /** The bodies of the methods by their names; those of one name are taken as one. */
    private static Map<String, String> bodies(String code) {
        Map<String, String> bodies = new TreeMap<>();
        Matcher head = Pattern.compile("(?m)^( {4}| {8})(?:\\w+(?:\\[\\])* )+(\\w+)\\([^()]*\\) \\{$").matcher(code);
        while (head.find()) {
            int end = code.indexOf("\n" + head.group(1) + "}", head.end());
            bodies.merge(head.group(2), code.substring(head.end(), end), String::concat);
        }
        return bodies;
    }

    /** How deep the calls of a method go; a method that is open already is a recursion, and isn't followed. */
    private static int depth(String name, Map<String, String> bodies, List<String> open) {
        open.add(name);
        int deepest = 0;
        Matcher call = Pattern.compile("(\\w+)\\(").matcher(bodies.get(name));
        while (call.find()) {
            if (bodies.containsKey(call.group(1)) && !open.contains(call.group(1))) {
                deepest = Math.max(deepest, depth(call.group(1), bodies, open));
            }
        }
        open.remove(name);
        return deepest + 1;
    }

    /** The calls make no objects: all rows are made in constructors. */
    private static void room() {
        Check.part("room");
        com.sun.management.ThreadMXBean threads = (com.sun.management.ThreadMXBean) ManagementFactory.getThreadMXBean();
        RelaxedSteps x = new RelaxedSteps();
        for (int times = 0; times < 3; times++) {
            threads.getCurrentThreadAllocatedBytes();
            everyCall(x);
        }
        long before = threads.getCurrentThreadAllocatedBytes();
        for (int times = 0; times < 20; times++) {
            everyCall(x);
        }
        long behind = threads.getCurrentThreadAllocatedBytes();
        Check.holds("calls make nothing, but " + (behind - before) + " bytes", behind - before < 2000);
        before = threads.getCurrentThreadAllocatedBytes();
        for (int times = 0; times < 100; times++) {
            new RelaxedSteps();
        }
        long each = (threads.getCurrentThreadAllocatedBytes() - before) / 100;
        Check.holds("a new object takes some bytes, but " + each, each < 12000);
    }

    private static void everyCall(RelaxedSteps x) {
        x.item(60, 20, 5, 1);
        x.limit(0, 60);
        x.rule(RelaxedSteps.TARGET, 50);
        x.multiplier(1, 9);
        x.step(9);
        x.repair();
        for (int what = 0; what <= 10; what++) {
            x.ofItem(0, what);
            x.ofDimension(0, what);
            x.bundle(what);
            x.count(what);
            x.bound(what);
        }
        x.boundThen();
        x.best(0);
        x.best(1);
        x.worthOf(0, 9);
        x.repaired(5);
        x.put(0x69313A322C332C34L);
        x.put(0x3B733B3BL);
        x.fault();
        x.wipe();
        x.put(0x69313A322C332C34L);
        x.put(0x3B73393BL << 8 | 'x');
        x.carryOut();
        x.save(0);
        x.drop(0);
        x.restore(0);
        x.undo();
    }
}
