import java.lang.reflect.Method;
import java.lang.reflect.Modifier;
import java.nio.file.Files;
import java.nio.file.Path;

/** The examples of README.md: that they are what runs here, and that they answer what README.md says. */
public final class ReadmeTest {
    private static final Path README = Path.of("README.md");
    private static final Path TEST = Path.of("src/test/java/ReadmeTest.java");
    // the packed() of README.md is the one that all tests use
    private static final Path HELP = Path.of("src/test/java/Check.java");

    public static void main(String[] args) throws Exception {
        calls();
        texts();
        sameLines();
        allMethods();
        Check.finish();
    }

    private static void calls() {
        Check.part("the first example");
        RelaxedSteps x = new RelaxedSteps();
        x.item(60, 20, 5, 0);              // item 0: worth 60, sizes 20, 5 and 0
        x.item(40, 40, 5, 1);              // item 1
        x.limit(0, 55);                    // dimension 0 holds 55
        x.rule(RelaxedSteps.TARGET, 100);
        x.step(10);                        // ten steps of the multipliers
        int worth = x.repair();            // 60: the worth of a solution that fits
        Check.due("repair()", worth, 60);
        int set = x.count(4);              // 1: the best solution so far, a bit mask of items
        Check.due("count(4)", set, 1);
        long gap = x.bound(2);             // how far it may be from the best, in hundredths
        Check.due("bound(2)", gap, x.bound(1) - 6000);
        int best = x.best(0);              // 60: the true best worth
        Check.due("best(0)", best, 60);
        int more = x.worthOf(0, 5);        // 40: by a limit of 60 both items fit
        Check.due("worthOf(0, 5)", more, 40);
        int left = x.undo();               // 5: so many changes can still be undone
        Check.due("undo()", left, 5);
    }

    private static void texts() {
        Check.part("the example of texts");
        RelaxedSteps x = new RelaxedSteps();
        x.put(packed("i60:20,5"));
        x.put(packed(",0;s10;x"));         // 16: the length of the pad
        Check.due("count(9)", x.count(9), 16);
        int fault = x.fault();             // NONE, or the index of the first wrong character
        Check.due("fault()", fault, RelaxedSteps.NONE);
        int done = x.carryOut();           // 3: an item, ten steps and a repair
        Check.due("carryOut()", done, 3);
        Check.due("count(0)", x.count(0), 1);
        Check.due("count(8)", x.count(8), 10);
        Check.due("count(5)", x.count(5), 60);
    }

    private static long packed(String piece) {
        return Check.packed(piece);
    }

    private static void sameLines() throws Exception {
        Check.part("README.md");
        String source = Files.readString(TEST) + Files.readString(HELP);
        boolean inside = false;
        int lines = 0;
        for (String line : Files.readAllLines(README)) {
            if (line.startsWith("```")) {
                inside = line.equals("```java");
            } else if (inside) {
                Check.holds("its line is run here: " + line, source.contains(" " + line.trim() + "\n"));
                lines++;
            }
        }
        Check.holds("it has examples", lines > 0);
    }

    private static void allMethods() throws Exception {
        String readme = Files.readString(README);
        for (Method method : RelaxedSteps.class.getDeclaredMethods()) {
            if (Modifier.isPublic(method.getModifiers())) {
                Check.holds("it names " + method.getName(), readme.contains("`" + method.getName() + "`"));
            }
        }
        Check.holds("it tells how the tests are run", readme.contains(".ci/run"));
    }
}
