import java.lang.reflect.Method;
import java.lang.reflect.Modifier;

/** Compares answers with those that are due, and counts the wrong ones. */
final class Check {
    private static int wrong = 0;
    private static String part = "";

    private Check() {
    }

    static void part(String name) {
        part = name;
    }

    static void due(String call, long got, long want) {
        if (got != want) {
            wrong++;
            System.out.println(part + ": " + call + " answered " + got + ", due is " + want);
        }
    }

    static void holds(String what, boolean holds) {
        if (!holds) {
            wrong++;
            System.out.println(part + ": not so: " + what);
        }
    }

    static int wrong() {
        return wrong;
    }

    static void finish() {
        System.out.println(wrong == 0 ? "all answers are as due" : wrong + " answers are not as due");
        if (wrong != 0) {
            System.exit(1);
        }
    }

    /** Runs every test of a class: its static methods of its own without arguments and without an answer. */
    static void everyTestOf(Class<?> tests) throws Exception {
        int ran = 0;
        for (Method test : tests.getDeclaredMethods()) {
            boolean isTest = Modifier.isStatic(test.getModifiers()) && !test.isSynthetic()
                && test.getParameterCount() == 0 && test.getReturnType() == void.class;
            if (isTest) {
                test.setAccessible(true);
                part(test.getName() + " names no sentence");
                test.invoke(null);
                holds("it says its sentence", !part.endsWith(" names no sentence"));
                ran++;
            }
        }
        System.out.println(ran + " tests of " + tests.getName());
    }

    /** Puts a text on the pad, up to eight characters a call. */
    static void put(RelaxedSteps x, String text) {
        for (int from = 0; from < text.length(); from += 8) {
            String piece = text.substring(from, Math.min(text.length(), from + 8));
            due("put of a piece of " + text, x.put(packed(piece)) > 0 ? 1 : 0, 1);
        }
    }

    static long packed(String piece) {
        long characters = 0;
        for (int k = 0; k < piece.length(); k++) {
            characters = characters << 8 | piece.charAt(k);
        }
        return characters;
    }

    /** All that can be told about an object without changing it, but for the pad and the history. */
    static String picture(RelaxedSteps x) {
        StringBuilder all = new StringBuilder();
        for (int what = 0; what <= 8; what++) {
            all.append(x.count(what)).append(' ');
        }
        for (int item = 0; item < x.count(0); item++) {
            for (int what = 0; what <= 6; what++) {
                all.append(x.ofItem(item, what)).append(' ');
            }
        }
        for (int dimension = 0; dimension < 3; dimension++) {
            for (int what = 0; what <= 4; what++) {
                all.append(x.ofDimension(dimension, what)).append(' ');
            }
        }
        for (int place = 0; place < x.count(6); place++) {
            all.append(x.bundle(place)).append(' ');
        }
        all.append(x.bound(0)).append(' ').append(x.bound(1)).append(' ').append(x.bound(2));
        return all.append(' ').append(x.boundThen()).toString();
    }
}
