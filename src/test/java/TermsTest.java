import java.util.function.IntSupplier;

/**
 * A test of its own for each sentence of the document's 'Terms' that names a boundary case.
 * The sentence stands first in its test; the answers behind it are worked out by hand.
 */
public final class TermsTest {
    private static final int NO_SUCH = -1, BAD_VALUE = -2, BAD_TEXT = -3, TOO_MANY = -4, NOT_POSSIBLE = -5, NONE = -6;
    private static final int FIXED = 0, FALLING = 1, TARGET = 2;

    public static void main(String[] args) throws Exception {
        Check.everyTestOf(TermsTest.class);
        Check.finish();
    }

    private static void sentence(String words) {
        Check.part(words);
    }

    private static void due(String call, long got, long want) {
        Check.due(call, got, want);
    }

    /** An object with items of a worth and up to three sizes; the sizes that are left out are 0. */
    private static RelaxedSteps with(int[]... items) {
        RelaxedSteps x = new RelaxedSteps();
        for (int[] item : items) {
            x.item(item[0], item.length > 1 ? item[1] : 0, item.length > 2 ? item[2] : 0, item.length > 3 ? item[3] : 0);
        }
        return x;
    }

    private static int[] of(int... numbers) {
        return numbers;
    }

    private static RelaxedSteps limits(RelaxedSteps x, int a, int b, int c) {
        x.limit(0, a);
        x.limit(1, b);
        x.limit(2, c);
        return x;
    }

    private static RelaxedSteps full() {
        RelaxedSteps x = new RelaxedSteps();
        for (int k = 0; k < 16; k++) {
            x.item(k, 0, 0, 0);
        }
        return x;
    }

    private static int faultOf(String text) {
        RelaxedSteps x = new RelaxedSteps();
        Check.put(x, text);
        return x.fault();
    }

    private static int carried(RelaxedSteps x, String text) {
        Check.put(x, text);
        return x.carryOut();
    }

    // ---- what it is

    private static void usedFor512Calls() {
        sentence("An object is used for at most 512 calls after it has been made");
        RelaxedSteps x = with(of(999, 99));
        for (int call = 2; call < 512; call++) {
            x.step(99);
        }
        due("count(8), the 512th call", x.count(8), 510 * 99);
        x = new RelaxedSteps();
        for (int call = 1; call < 512; call++) {
            x.rule(FIXED, call);
        }
        due("undo(), the 512th call", x.undo(), 5);
        x = new RelaxedSteps();
        for (int times = 0; times < 46; times++) {
            // ten calls of put(), one of carryOut()
            due("carryOut()", carried(x, "s99;".repeat(19) + "s99"), 20);
        }
        due("count(8), the 507th call", x.count(8), 46 * 20 * 99);
    }

    // ---- conventions

    private static void firstErrorApplies() {
        sentence("it names its errors in the order in which they are checked, and the first one that applies is returned.");
        RelaxedSteps x = full();
        due("item(1000, 0, 0, 0), the 17th", x.item(1000, 0, 0, 0), BAD_VALUE);
        due("item(0, 0, 0, 100), the 17th", x.item(0, 0, 0, 100), BAD_VALUE);
        due("item(0, 0, 0, 0), the 17th", x.item(0, 0, 0, 0), TOO_MANY);
        due("limit(3, 1000)", x.limit(3, 1000), NO_SUCH);
        due("limit(-1, -1)", x.limit(-1, -1), NO_SUCH);
        due("multiplier(3, 1000000)", x.multiplier(3, 1000000), NO_SUCH);
        due("multiplier(-1, -1)", x.multiplier(-1, -1), NO_SUCH);
        due("ofItem(16, 7)", x.ofItem(16, 7), NO_SUCH);
        due("ofItem(-1, -1)", x.ofItem(-1, -1), NO_SUCH);
        due("ofDimension(3, 5)", x.ofDimension(3, 5), NO_SUCH);
        due("ofDimension(-1, -1)", x.ofDimension(-1, -1), NO_SUCH);
        due("worthOf(3, 100)", x.worthOf(3, 100), NO_SUCH);
        due("worthOf(-1, 0)", x.worthOf(-1, 0), NO_SUCH);
        due("restore(2), nothing saved", x.restore(2), BAD_VALUE);
        Check.put(x, "x;".repeat(40));
        due("put(32), the 81st", x.put(32), BAD_VALUE);
        due("put('x'), the 81st", x.put('x'), TOO_MANY);
    }

    private static void errorChangesNothing() {
        sentence("A call that returns an error changes nothing.");
        RelaxedSteps x = full();
        x.drop(0);
        x.item(60, 30, 20, 10);
        x.limit(0, 20);
        x.rule(TARGET, 7);
        x.multiplier(1, 9);
        x.step(2);
        x.repair();
        x.save(1);
        Check.put(x, "x".repeat(80));
        IntSupplier[] changes = {() -> x.item(1000, 0, 0, 0), () -> x.item(-1, 0, 0, 0), () -> x.item(0, 100, 0, 0),
            () -> x.item(0, 0, -1, 0), () -> x.item(0, 0, 0, 100), () -> x.item(0, 0, 0, 0), () -> x.drop(16),
            () -> x.drop(-1), () -> x.limit(3, 5), () -> x.limit(0, 1000), () -> x.limit(0, -1), () -> x.rule(3, 5),
            () -> x.rule(0, 10000), () -> x.rule(-1, 5), () -> x.rule(0, 0), () -> x.multiplier(3, 5),
            () -> x.multiplier(0, -1), () -> x.multiplier(0, 1000000), () -> x.step(0), () -> x.step(100),
            () -> x.put(0), () -> x.put('a' << 8), () -> x.put('a'), () -> x.carryOut(), () -> x.save(2), () -> x.save(-1),
            () -> x.restore(0), () -> x.restore(2)};
        IntSupplier[] questions = {() -> x.ofItem(16, 0), () -> x.ofItem(0, 7), () -> x.ofDimension(3, 0),
            () -> x.ofDimension(0, 5), () -> x.bundle(8), () -> x.count(11), () -> (int) x.bound(3), () -> x.best(2),
            () -> x.worthOf(3, 1), () -> x.worthOf(0, 0), () -> x.repaired(-1)};
        nothingChangedBy(x, changes);
        nothingChangedBy(x, questions);
        due("restore(1), a slot", x.restore(1), 16);
        due("count(5)", x.count(5), x.repair());
    }

    private static void nothingChangedBy(RelaxedSteps x, IntSupplier[] calls) {
        String before = Check.picture(x) + " " + x.count(9) + " " + x.count(10) + " " + x.fault();
        for (int k = 0; k < calls.length; k++) {
            Check.holds("call " + k + " answers an error", calls[k].getAsInt() < 0);
            String behind = Check.picture(x) + " " + x.count(9) + " " + x.count(10) + " " + x.fault();
            Check.holds("call " + k + " changes nothing", behind.equals(before));
        }
    }

    private static void noneOnlyWithoutError() {
        sentence("NONE (-6) is not an error; it is returned only if no error applies.");
        RelaxedSteps x = new RelaxedSteps();
        due("ofDimension(2, 3)", x.ofDimension(2, 3), NONE);
        due("ofDimension(3, 3)", x.ofDimension(3, 3), NO_SUCH);
        due("ofDimension(-1, 4)", x.ofDimension(-1, 4), NO_SUCH);
        due("ofDimension(2, 5)", x.ofDimension(2, 5), BAD_VALUE);
        due("count(4)", x.count(4), NONE);
        due("count(5)", x.count(5), NONE);
        due("count(11)", x.count(11), BAD_VALUE);
        due("ofItem(0, 6), no item", x.ofItem(0, 6), NO_SUCH);
    }

    private static void numberedFrom0() {
        sentence("Everything is numbered from 0.");
        RelaxedSteps x = new RelaxedSteps();
        due("item, the first", x.item(5, 0, 0, 0), 0);
        due("limit(0, 49), the first dimension", x.limit(0, 49), 50);
        due("multiplier(0, 0)", x.multiplier(0, 0), 0);
        x.step(1);
        due("bundle(0), the first place", x.bundle(0), 1);
        due("save(0), the first slot", x.save(0), 1);
        due("ofItem(0, 0)", x.ofItem(0, 0), 5);
        due("fault() at the first character", faultOf("?"), 0);
    }

    private static void setsAreBitMasks() {
        sentence("Sets of items are bit masks.");
        RelaxedSteps x = new RelaxedSteps();
        for (int k = 0; k < 16; k++) {
            x.item(1 + k, 1, 0, 0);
        }
        due("count(3), all", x.count(3), 65535);
        x.multiplier(0, 1500);
        due("count(3), the last", x.count(3), 32768);
        x.multiplier(0, 1600);
        due("count(3), none", x.count(3), 0);
    }

    private static void toldInHundredths() {
        sentence("Multipliers and bounds are told in hundredths (of worth).");
        RelaxedSteps x = limits(with(of(1, 1)), 0, 0, 0);
        due("bound(0)", x.bound(0), 100);
        x.multiplier(0, 1);
        due("bound(0), one hundredth less", x.bound(0), 99);
    }

    private static void divisionsRoundedDown() {
        sentence("Divisions are rounded down.");
        RelaxedSteps x = limits(with(of(999, 51)), 50, 0, 0);
        x.rule(FALLING, 5);
        x.step(2);
        // 5, and 5 / 2
        due("ofDimension(0, 1)", x.ofDimension(0, 1), 7);
        x = limits(with(of(1, 57)), 50, 0, 0);
        x.rule(TARGET, 1);
        x.step(1);
        // 100 / 49 is 2, by a slope of 7
        due("ofDimension(0, 1)", x.ofDimension(0, 1), 14);
    }

    // ---- items, limits

    private static void upTo16Items() {
        sentence("There are up to 16 items");
        RelaxedSteps x = new RelaxedSteps();
        for (int k = 0; k < 15; k++) {
            x.item(1, 1, 1, 1);
        }
        due("item, the 16th", x.item(1, 1, 1, 1), 15);
        due("item, the 17th", x.item(1, 1, 1, 1), TOO_MANY);
        due("count(0)", x.count(0), 16);
    }

    private static void movedUp() {
        sentence("numbered in the order in which they came (when one is dropped, those behind it move up)");
        RelaxedSteps x = new RelaxedSteps();
        for (int k = 0; k < 16; k++) {
            x.item(10 + k, 20 + k, 40 + k, 60 + k);
        }
        x.drop(15);
        due("ofItem(14, 0), ahead of the last", x.ofItem(14, 0), 24);
        x.drop(0);
        due("ofItem(0, 0), behind the first", x.ofItem(0, 0), 11);
        due("ofItem(0, 1)", x.ofItem(0, 1), 21);
        due("ofItem(0, 2)", x.ofItem(0, 2), 41);
        due("ofItem(0, 3)", x.ofItem(0, 3), 61);
        due("ofItem(13, 0)", x.ofItem(13, 0), 24);
        due("ofItem(14, 0)", x.ofItem(14, 0), NO_SUCH);
        x.drop(5);
        due("ofItem(4, 0), ahead of it", x.ofItem(4, 0), 15);
        due("ofItem(5, 0), behind it", x.ofItem(5, 0), 17);
        due("item, behind all", x.item(1, 1, 1, 1), 13);
    }

    private static void worthsAndSizes() {
        sentence("An item has a worth (0 to 999), and a size in each of 3 dimensions, 0 to 2 (0 to 99 each).");
        RelaxedSteps x = new RelaxedSteps();
        due("item(0, 0, 0, 0)", x.item(0, 0, 0, 0), 0);
        due("item(999, 99, 99, 99)", x.item(999, 99, 99, 99), 1);
        for (int what = 0; what <= 3; what++) {
            due("ofItem(0, " + what + ")", x.ofItem(0, what), 0);
            due("ofItem(1, " + what + ")", x.ofItem(1, what), what == 0 ? 999 : 99);
        }
    }

    private static void limitsAtFirst() {
        sentence("Each dimension has a limit (0 to 999; 50 at first).");
        RelaxedSteps x = new RelaxedSteps();
        for (int dimension = 0; dimension < 3; dimension++) {
            due("limit to 0", x.limit(dimension, 0), 50);
            due("ofDimension(" + dimension + ", 0)", x.ofDimension(dimension, 0), 0);
            due("limit to 999", x.limit(dimension, 999), 0);
            due("ofDimension(" + dimension + ", 0)", x.ofDimension(dimension, 0), 999);
        }
    }

    private static void fitsAtTheLimit() {
        sentence("A set of items fits if for each dimension the sum of the sizes is at most the limit.");
        for (int dimension = 0; dimension < 3; dimension++) {
            int a = dimension == 0 ? 1 : 0;
            int b = dimension == 1 ? 1 : 0;
            int c = dimension == 2 ? 1 : 0;
            RelaxedSteps x = with(of(5, 30 * a, 30 * b, 30 * c), of(4, 20 * a, 20 * b, 20 * c), of(3, a, b, c));
            due("repaired(3), 50 of 50", x.repaired(3), 3);
            // 5 for 30 is less than 4 for 20: 0 goes
            due("repaired(7), 51 of 50", x.repaired(7), 6);
            due("best(0), 50 of 50", x.best(0), 9);
            x.limit(dimension, 51);
            due("repaired(7), 51 of 51", x.repaired(7), 7);
            due("best(0), 51 of 51", x.best(0), 12);
            x.limit(dimension, 0);
            due("best(0), nothing fits", x.best(0), 0);
            due("repaired(7), nothing fits", x.repaired(7), 0);
        }
    }

    private static void worthIsTheSum() {
        sentence("The worth of a set is the sum of the worths of its items.");
        RelaxedSteps x = new RelaxedSteps();
        due("repair(), no item", x.repair(), 0);
        for (int k = 0; k < 16; k++) {
            x.item(999, 0, 0, 0);
        }
        due("best(0), all", x.best(0), 16 * 999);
        due("repair(), all", x.repair(), 16 * 999);
        due("count(5), all", x.count(5), 16 * 999);
    }

    // ---- multipliers, bounds

    private static void multipliersAtFirst() {
        sentence("Each dimension has a multiplier (0 to 999999 hundredths; 0 at first).");
        RelaxedSteps x = new RelaxedSteps();
        for (int dimension = 0; dimension < 3; dimension++) {
            due("multiplier to 999999", x.multiplier(dimension, 999999), 0);
            due("ofDimension(" + dimension + ", 1)", x.ofDimension(dimension, 1), 999999);
            due("multiplier to 0", x.multiplier(dimension, 0), 999999);
            due("ofDimension(" + dimension + ", 1)", x.ofDimension(dimension, 1), 0);
        }
    }

    private static void pricesAtTheirEdges() {
        sentence("The price of an item is 100 times its worth, less the sum over all dimensions of the multiplier times the size.");
        RelaxedSteps x = with(of(0, 99, 99, 99), of(999, 0, 0, 0), of(999, 1, 2, 3));
        due("ofItem(1, 4), the greatest", x.ofItem(1, 4), 1000099900);
        due("ofItem(0, 4), multipliers of 0", x.ofItem(0, 4), 1000000000);
        x.multiplier(0, 7);
        x.multiplier(1, 50);
        x.multiplier(2, 900);
        due("ofItem(2, 4)", x.ofItem(2, 4), 1000099900 - 7 - 100 - 2700);
        for (int dimension = 0; dimension < 3; dimension++) {
            x.multiplier(dimension, 999999);
        }
        // 3 * 99 * 999999 is 296999703
        due("ofItem(0, 4), the least", x.ofItem(0, 4), 703000297);
        due("ofItem(1, 4)", x.ofItem(1, 4), 1000099900);
    }

    private static void relaxedAboveZero() {
        sentence("The relaxed set is that of all items whose price is above 0.");
        RelaxedSteps x = with(of(1, 1), of(0), of(3, 0, 2, 1));
        due("count(3), prices 100, 0, 300", x.count(3), 5);
        x.multiplier(0, 99);
        due("count(3), a price of 1", x.count(3), 5);
        x.multiplier(0, 100);
        due("count(3), a price of 0", x.count(3), 4);
        x.multiplier(0, 101);
        due("count(3), a price of -1", x.count(3), 4);
        x.multiplier(1, 149);
        x.multiplier(2, 1);
        due("count(3), 300 - 298 - 1", x.count(3), 4);
        x.multiplier(2, 2);
        due("count(3), 300 - 298 - 2", x.count(3), 0);
    }

    private static void boundAtItsEdges() {
        sentence("The bound of the multipliers is the sum of the prices of the relaxed set, and the sum over all dimensions of the "
            + "multiplier times the limit.");
        RelaxedSteps x = limits(with(of(1, 10), of(9, 2)), 0, 0, 0);
        x.multiplier(0, 50);
        // a price of -400 isn't taken off
        due("bound(0), limits of 0", x.bound(0), 800);
        limits(x, 3, 4, 5);
        x.multiplier(1, 1);
        x.multiplier(2, 2);
        due("bound(0)", x.bound(0), 800 + 150 + 4 + 10);
        limits(x, 999, 999, 999);
        for (int dimension = 0; dimension < 3; dimension++) {
            x.multiplier(dimension, 999999);
        }
        due("bound(0), beyond an int", x.bound(0), 2996997003L);
        x.item(999, 0, 0, 0);
        due("bound(0), the greatest and a price", x.bound(0), 2997096903L);
    }

    private static void noSetAboveTheBound() {
        sentence("(No set that fits has a worth, times 100, above it.)");
        RelaxedSteps x = limits(with(of(10, 20), of(7, 30)), 50, 0, 0);
        due("bound(0), just the best", x.bound(0), 1700);
        due("best(0)", x.best(0), 17);
        x.limit(0, 49);
        for (int hundredths = 0; hundredths < 60; hundredths++) {
            x.multiplier(0, hundredths);
            Check.holds("1000 isn't above the bound at " + hundredths, x.bound(0) >= 1000);
        }
        // 1000 - 460, 700 - 690, 23 * 49
        x.multiplier(0, 23);
        due("bound(0)", x.bound(0), 540 + 10 + 1127);
    }

    private static void bestBoundIsTheLeast() {
        sentence("The best bound is the least bound of all multipliers that there were since it was forgotten last, these included");
        RelaxedSteps x = with(of(100, 60));
        due("bound(1), these", x.bound(1), 10000);
        x.multiplier(0, 10);
        due("bound(1), less", x.bound(1), 9900);
        x.multiplier(0, 10);
        due("bound(1), as much", x.bound(1), 9900);
        x.multiplier(0, 5);
        due("bound(0)", x.bound(0), 9950);
        due("bound(1), more", x.bound(1), 9900);
        x.multiplier(0, 200);
        due("bound(0), without the item", x.bound(0), 10000);
        x.rule(FIXED, 1);
        // the slope is -50: down to 150 and a price of 1000, with 7500
        x.step(1);
        due("bound(1), behind a step", x.bound(1), 8500);
        x.limit(0, 50);
        x.multiplier(0, 0);
        due("bound(1), these when it was forgotten", x.bound(1), 8500);
    }

    private static void bestBoundForgotten() {
        sentence("it is forgotten whenever an item or a limit changes.");
        for (int k = 0; k < 8; k++) {
            RelaxedSteps x = with(of(100, 60), of(0));
            x.multiplier(0, 10);
            x.multiplier(0, 0);
            due("bound(1), since the items came", x.bound(1), 9900);
            x.rule(FALLING, 8);
            x.repair();
            x.save(0);
            x.repaired(3);
            carried(x, "x;r0");
            due("bound(1), no item or limit changed", x.bound(1), 9900);
            IntSupplier[] changes = {() -> x.item(0, 9, 9, 9), () -> x.drop(1), () -> x.limit(2, 50), () -> x.limit(0, 50),
                () -> carried(x, "i0:9,9,9"), () -> carried(x, "-1"), () -> carried(x, "l2=50"), () -> carried(x, "l0=50")};
            changes[k].getAsInt();
            due("bound(1) behind change " + k, x.bound(1), 10000);
        }
    }

    // ---- steps

    private static void slopesAtTheirEdges() {
        sentence("The slope of a dimension is what the relaxed set uses of it, less its limit.");
        RelaxedSteps x = limits(new RelaxedSteps(), 0, 50, 999);
        due("ofDimension(0, 2), none of 0", x.ofDimension(0, 2), 10000);
        due("ofDimension(1, 2), none of 50", x.ofDimension(1, 2), 9950);
        due("ofDimension(2, 2), the least", x.ofDimension(2, 2), 9001);
        for (int k = 0; k < 16; k++) {
            x.item(999, 99, k == 3 ? 50 : 0, 0);
        }
        due("ofDimension(0, 2), the greatest", x.ofDimension(0, 2), 11584);
        due("ofDimension(1, 2), just the limit", x.ofDimension(1, 2), 10000);
        x.multiplier(1, 1998);
        due("ofDimension(0, 2), 3 isn't relaxed", x.ofDimension(0, 2), 10000 + 15 * 99);
        due("ofDimension(1, 2), 3 isn't relaxed", x.ofDimension(1, 2), 9950);
    }

    private static void multipliersStayInRange() {
        sentence("A step changes each multiplier by the length times the slope (down to 0 at least, up to 999999 at most).");
        RelaxedSteps x = limits(with(of(999, 99), of(999, 99)), 0, 10, 999);
        x.rule(FIXED, 5046);
        // 198 * 5046 is 999108
        int[][] up = {{890, 999998}, {891, 999999}, {892, 999999}, {1009, 999999}};
        for (int[] u : up) {
            x.multiplier(0, u[0]);
            x.step(1);
            due("up from " + u[0], x.ofDimension(0, 1), u[1]);
        }
        // 10 * 5046 is 50460
        int[][] down = {{50461, 1}, {50460, 0}, {50459, 0}, {0, 0}};
        for (int[] d : down) {
            x.multiplier(1, d[0]);
            x.multiplier(2, 999999);
            x.step(1);
            due("down from " + d[0], x.ofDimension(1, 1), d[1]);
            due("down far", x.ofDimension(2, 1), 0);
        }
    }

    private static void multipliersStayInRangeByTarget() {
        sentence("A step changes each multiplier by the length times the slope (.. up to 999999 at most). Also with a great length.");
        RelaxedSteps x = limits(with(of(999, 51)), 50, 0, 0);
        for (int k = 0; k < 15; k++) {
            x.item(999, 0, 0, 0);
        }
        x.rule(TARGET, 1);
        // 1598400 / 1
        due("boundThen()", x.boundThen(), 15 * 99900 + 50L * 999999);
        x.step(1);
        due("ofDimension(0, 1)", x.ofDimension(0, 1), 999999);
        // 51498450 / 2500 is 20599, by a slope of -50
        x.step(1);
        due("ofDimension(0, 1)", x.ofDimension(0, 1), 0);
    }

    private static void fixedLength() {
        sentence("FIXED (0): STEP hundredths (1 to 9999; 100 at first).");
        RelaxedSteps x = limits(with(of(999, 51, 52)), 50, 50, 0);
        due("count(1)", x.count(1), FIXED);
        due("count(2)", x.count(2), 100);
        x.step(1);
        due("ofDimension(0, 1), by 100", x.ofDimension(0, 1), 100);
        due("ofDimension(1, 1), by 100", x.ofDimension(1, 1), 200);
        x.rule(FIXED, 1);
        x.step(2);
        due("ofDimension(0, 1), by 1 twice", x.ofDimension(0, 1), 102);
        x.rule(FIXED, 9999);
        x.step(1);
        due("ofDimension(0, 1), by 9999", x.ofDimension(0, 1), 10101);
        due("ofDimension(1, 1), by 9999", x.ofDimension(1, 1), 204 + 19998);
    }

    private static RelaxedSteps slopeOfOne(int rule, int step) {
        RelaxedSteps x = limits(with(of(999, 51)), 50, 0, 0);
        x.rule(rule, step);
        return x;
    }

    private static void fallingLength() {
        sentence("FALLING (1): STEP divided by the number of steps since the best bound was forgotten (1 for the first one)");
        RelaxedSteps x = slopeOfOne(FALLING, 60);
        int[] due = {60, 90, 110, 125, 137, 147};
        for (int k = 0; k < due.length; k++) {
            due("boundThen()", x.boundThen(), 99900 - due[k]);
            x.step(1);
            due("ofDimension(0, 1) behind step " + (k + 1), x.ofDimension(0, 1), due[k]);
        }
        x = slopeOfOne(FALLING, 60);
        x.step(6);
        due("six steps in a call", x.ofDimension(0, 1), 147);
    }

    private static void fallingLengthAtLeast1() {
        sentence("FALLING (1): STEP divided by .., at least 1.");
        RelaxedSteps x = slopeOfOne(FALLING, 2);
        int[] due = {2, 3, 4, 5};
        for (int k = 0; k < due.length; k++) {
            x.step(1);
            due("ofDimension(0, 1) behind step " + (k + 1), x.ofDimension(0, 1), due[k]);
        }
        x = slopeOfOne(FALLING, 1);
        x.step(99);
        due("ofDimension(0, 1), 99 times 1", x.ofDimension(0, 1), 99);
    }

    private static void fallingCountsSinceForgotten() {
        sentence("the number of steps since the best bound was forgotten, by whatever rule they were made");
        RelaxedSteps x = slopeOfOne(FIXED, 60);
        x.step(2);
        x.rule(FALLING, 60);
        x.step(1);
        due("the third one", x.ofDimension(0, 1), 140);
        x.multiplier(0, 0);
        x.repair();
        x.step(1);
        due("the fourth one", x.ofDimension(0, 1), 15);
        x.limit(2, 0);
        x.step(1);
        due("the first one again", x.ofDimension(0, 1), 75);
    }

    private static void targetLength() {
        sentence("TARGET (2): the bound of now, less 100 times the worth of the best solution (0 if there is none), divided by the sum "
            + "of the squares of all slopes");
        RelaxedSteps x = limits(with(of(7, 53), of(2)), 50, 0, 0);
        x.rule(TARGET, 9999);
        x.step(1);
        // 900 / 9 by 3
        due("without a solution", x.ofDimension(0, 1), 300);
        x.multiplier(0, 0);
        due("repair()", x.repair(), 2);
        x.step(1);
        // 700 / 9 is 77
        due("with one", x.ofDimension(0, 1), 231);
        x = limits(with(of(90, 57, 46, 62)), 50, 50, 50);
        x.rule(TARGET, 1);
        x.multiplier(1, 100);
        // the bound is 9000 - 4600 + 5000; 9400 / (49 + 16 + 144) is 44
        x.step(1);
        due("ofDimension(0, 1), all slopes", x.ofDimension(0, 1), 308);
        due("ofDimension(1, 1), all slopes", x.ofDimension(1, 1), 0);
        due("ofDimension(2, 1), all slopes", x.ofDimension(2, 1), 528);
    }

    private static void targetTakesTheBoundOfNow() {
        sentence("TARGET (2): the bound of now, not the best one");
        RelaxedSteps x = limits(with(of(10, 60)), 10, 0, 0);
        x.rule(TARGET, 1);
        x.multiplier(0, 17);
        due("bound(0)", x.bound(0), 170);
        x.multiplier(0, 999);
        due("bound(0)", x.bound(0), 9990);
        due("bound(1)", x.bound(1), 170);
        // 9990 / 100 is 99, by -10
        x.step(1);
        due("ofDimension(0, 1)", x.ofDimension(0, 1), 9);
        x.multiplier(0, 999);
        // the second step: 1000 - 540 + 90 is 550, by a slope of 50: 1, as 550 / 2500 is 0
        x.step(2);
        due("ofDimension(0, 1), each step by its own", x.ofDimension(0, 1), 59);
    }

    private static void targetLengthAtLeast1() {
        sentence("TARGET (2): .., at least 1.");
        RelaxedSteps x = limits(with(of(1, 60)), 50, 0, 0);
        x.rule(TARGET, 9999);
        x.step(1);
        due("100 / 100", x.ofDimension(0, 1), 10);
        x = limits(with(of(1, 61)), 50, 0, 0);
        x.rule(TARGET, 9999);
        x.step(1);
        due("100 / 121", x.ofDimension(0, 1), 11);
        x = limits(with(of(5, 5)), 5, 0, 0);
        x.rule(TARGET, 9999);
        x.multiplier(0, 100);
        due("repair()", x.repair(), 5);
        due("bound(2), no gap", x.bound(2), 0);
        x.step(1);
        due("0 / 25, by -5", x.ofDimension(0, 1), 95);
        x = limits(with(of(5, 10), of(4, 41)), 50, 0, 0);
        x.rule(TARGET, 9999);
        due("repair()", x.repair(), 5);
        // 900 - 500 by a slope of 1
        x.step(1);
        due("400 / 1", x.ofDimension(0, 1), 400);
    }

    private static void targetWithoutSlopes() {
        sentence("(If all slopes are 0, it is 0.)");
        RelaxedSteps x = with(of(9, 50, 50, 50));
        x.rule(TARGET, 9999);
        x.multiplier(0, 5);
        due("boundThen()", x.boundThen(), 900);
        due("step(99)", x.step(99), 0);
        due("ofDimension(0, 1)", x.ofDimension(0, 1), 5);
        due("ofDimension(1, 1)", x.ofDimension(1, 1), 0);
        due("count(7), they are steps", x.count(7), 99);
        due("count(6)", x.count(6), 1);
        x = limits(new RelaxedSteps(), 0, 0, 0);
        x.rule(TARGET, 1);
        due("boundThen(), no items", x.boundThen(), 0);
        due("step(1), no items", x.step(1), 0);
    }

    // ---- bundle

    /** Items of worth 1 to 10 and size 1: at 100 * k hundredths those of a worth above k are relaxed. */
    private static RelaxedSteps tenItems() {
        RelaxedSteps x = new RelaxedSteps();
        for (int worth = 1; worth <= 10; worth++) {
            x.item(worth, 1, 0, 0);
        }
        return x;
    }

    private static void stepsAt(RelaxedSteps x, int... worths) {
        for (int worth : worths) {
            x.multiplier(0, 100 * worth);
            x.step(1);
        }
    }

    private static void bundleDue(RelaxedSteps x, int... sets) {
        due("count(6)", x.count(6), sets.length);
        for (int place = 0; place < sets.length; place++) {
            due("bundle(" + place + ")", x.bundle(place), sets[place]);
        }
        due("bundle(" + sets.length + ")", x.bundle(sets.length), NO_SUCH);
    }

    private static void bundleUpTo8() {
        sentence("The bundle has up to 8 relaxed sets, those of the latest steps");
        RelaxedSteps x = tenItems();
        bundleDue(x);
        stepsAt(x, 0, 1, 2, 3, 4, 5, 6);
        bundleDue(x, 1023, 1022, 1020, 1016, 1008, 992, 960);
        stepsAt(x, 7);
        bundleDue(x, 1023, 1022, 1020, 1016, 1008, 992, 960, 896);
    }

    private static void bundleSetAheadOfStep() {
        sentence("the relaxed set ahead of a step is put in behind the others");
        RelaxedSteps x = tenItems();
        x.limit(0, 9);
        // a slope of 1: from 0 to 100, which leaves 9 items and no slope
        x.step(1);
        bundleDue(x, 1023);
        due("count(3), behind it", x.count(3), 1022);
        x.step(1);
        bundleDue(x, 1023, 1022);
        x.step(5);
        bundleDue(x, 1023, 1022);
        stepsAt(x, 10);
        bundleDue(x, 1023, 1022, 0);
    }

    private static void bundleMovedToTheEnd() {
        sentence("a set that is in it already is moved to the end");
        RelaxedSteps x = tenItems();
        stepsAt(x, 0, 1, 2, 3);
        stepsAt(x, 3);
        bundleDue(x, 1023, 1022, 1020, 1016);
        stepsAt(x, 0);
        bundleDue(x, 1022, 1020, 1016, 1023);
        stepsAt(x, 2);
        bundleDue(x, 1022, 1016, 1023, 1020);
        x = tenItems();
        stepsAt(x, 0, 1, 2, 3, 4, 5, 6, 7);
        stepsAt(x, 0);
        // it's full, but none goes
        bundleDue(x, 1022, 1020, 1016, 1008, 992, 960, 896, 1023);
        stepsAt(x, 4);
        bundleDue(x, 1022, 1020, 1016, 992, 960, 896, 1023, 1008);
    }

    private static void bundleFirstGoes() {
        sentence("if there are more than 8, the first one goes.");
        RelaxedSteps x = tenItems();
        stepsAt(x, 0, 1, 2, 3, 4, 5, 6, 7, 8);
        bundleDue(x, 1022, 1020, 1016, 1008, 992, 960, 896, 768);
        stepsAt(x, 0, 10);
        bundleDue(x, 1016, 1008, 992, 960, 896, 768, 1023, 0);
    }

    private static void bundleEmptied() {
        sentence("(It is emptied whenever an item changes.)");
        RelaxedSteps x = tenItems();
        stepsAt(x, 0, 1);
        x.limit(0, 8);
        x.rule(TARGET, 3);
        x.repair();
        x.multiplier(1, 4);
        bundleDue(x, 1023, 1022);
        x.item(0, 0, 0, 0);
        bundleDue(x);
        stepsAt(x, 0, 1);
        x.drop(10);
        bundleDue(x);
        stepsAt(x, 2);
        due("drop(10), no such item", x.drop(10), NO_SUCH);
        bundleDue(x, 1020);
        carried(x, "-9");
        bundleDue(x);
    }

    // ---- solutions

    private static void repairOnlyWhatDoesNotFit() {
        sentence("To repair a set: as long as it does not fit, the item of it is taken out whose worth is least for its size");
        RelaxedSteps x = with(of(10, 30), of(20, 30), of(30, 30));
        due("repaired(4), it fits", x.repaired(4), 4);
        due("repaired(6), one goes", x.repaired(6), 4);
        due("repaired(7), two go", x.repaired(7), 4);
        x.limit(0, 60);
        due("repaired(3), just fits", x.repaired(3), 3);
        due("repaired(7), one goes", x.repaired(7), 6);
        x.limit(0, 29);
        due("repaired(7), all go", x.repaired(7), 0);
        x = new RelaxedSteps();
        for (int k = 0; k < 16; k++) {
            x.item(999 - k, 99, 99, 99);
        }
        due("repaired(65535), 16 go", x.repaired(65535), 0);
        limits(x, 99, 99, 99);
        due("repaired(65535), 15 go", x.repaired(65535), 1);
    }

    private static void leastForItsSize() {
        sentence("of two items a and b, a goes first if worth(a) * size(b) is less than worth(b) * size(a)");
        due("10 for 40, 5 for 15", with(of(10, 40), of(5, 15)).repaired(3), 2);
        due("30 for 40, 5 for 15", with(of(30, 40), of(5, 15)).repaired(3), 1);
        due("2 for 40, 1 for 21", with(of(2, 40), of(1, 21)).repaired(3), 1);
        due("2 for 41, 1 for 20", with(of(2, 41), of(1, 20)).repaired(3), 2);
        due("1 for 21, 2 for 40", with(of(1, 21), of(2, 40)).repaired(3), 2);
        due("nothing for 20, 1 for 40", with(of(0, 20), of(1, 40)).repaired(3), 2);
        due("1 for 40, nothing for 20", with(of(1, 40), of(0, 20)).repaired(3), 1);
        due("999 for 99, 999 for 98", limits(with(of(999, 99), of(999, 98)), 99, 0, 0).repaired(3), 2);
    }

    private static void sizeInAllDimensions() {
        sentence("size being that in all dimensions together");
        due("10 for 30, 10 for 25 and 0 and 40", with(of(10, 30), of(10, 25, 0, 40)).repaired(3), 1);
        due("10 for 30, 10 for 25 and 40", with(of(10, 30), of(10, 25, 40)).repaired(3), 1);
        due("10 for 30, 10 for 25 and 2 and 2", with(of(10, 30), of(10, 25, 2, 2)).repaired(3), 2);
        due("10 for 30, 10 for 25 and 3 and 3", with(of(10, 30), of(10, 25, 3, 3)).repaired(3), 1);
    }

    private static void ofLikeOnesTheLowerNumber() {
        sentence("of like ones the lower number.");
        due("2 for 30 twice", with(of(2, 30), of(2, 30)).repaired(3), 2);
        due("4 for 40, 2 for 20", with(of(4, 40), of(2, 20)).repaired(3), 2);
        due("2 for 20, 4 for 40", with(of(2, 20), of(4, 40)).repaired(3), 2);
        due("nothing for 20, nothing for 40", with(of(0, 20), of(0, 40)).repaired(3), 2);
        due("1 for 20 three times", with(of(1, 20), of(1, 20), of(1, 20)).repaired(7), 6);
        due("of 1 and 2 alone", with(of(1, 20), of(1, 30), of(1, 30)).repaired(6), 5);
    }

    private static void neverWithoutSize() {
        sentence("(An item without size is never taken out.)");
        due("repaired(3)", with(of(0), of(999, 51)).repaired(3), 1);
        due("repaired(3)", with(of(999, 51), of(0)).repaired(3), 2);
        due("repaired(15)", with(of(0), of(0), of(9, 30), of(8, 30)).repaired(15), 7);
        RelaxedSteps x = limits(with(of(0), of(5), of(9, 1), of(8, 0, 0, 1)), 0, 0, 0);
        due("repaired(15), limits of 0", x.repaired(15), 3);
    }

    private static void othersAreTried() {
        sentence("Then all other items are tried in the order of their numbers: each that still fits is put in.");
        RelaxedSteps x = with(of(1, 30), of(50, 25), of(9, 20), of(0, 1));
        due("repaired(0), 30 and 20", x.repaired(0), 5);
        due("repaired(2), 25 and 20 and 1", x.repaired(2), 14);
        due("repaired(8), 1 and 30", x.repaired(8), 9);
        x.limit(0, 51);
        due("repaired(0), 30 and 20 and 1", x.repaired(0), 13);
        due("taken out, and in again", with(of(1, 10), of(50, 30), of(99, 40)).repaired(7), 5);
        x = limits(with(of(1, 1, 0, 0), of(1, 0, 1, 0), of(1, 0, 0, 1)), 1, 0, 1);
        due("repaired(0), two dimensions", x.repaired(0), 5);
    }

    private static void bestSolutionIsTheGreatest() {
        sentence("The best solution is the set with the greatest worth of those that were repaired by repair() since it was forgotten "
            + "last");
        RelaxedSteps x = with(of(0, 1), of(5, 50));
        due("count(4), none yet", x.count(4), NONE);
        x.multiplier(0, 90);
        due("repair(), worth nothing", x.repair(), 0);
        due("count(4)", x.count(4), 1);
        due("count(5)", x.count(5), 0);
        x.multiplier(0, 9);
        due("repair(), worth more", x.repair(), 5);
        due("count(4)", x.count(4), 2);
        due("count(5)", x.count(5), 5);
        x.multiplier(0, 90);
        due("repair(), worth less", x.repair(), 0);
        due("count(4)", x.count(4), 2);
        due("count(5)", x.count(5), 5);
    }

    private static void ofSeveralTheFirst() {
        sentence("of several the first one");
        RelaxedSteps x = with(of(5, 50), of(5, 50, 1));
        x.multiplier(0, 9);
        due("repair()", x.repair(), 5);
        due("count(4), the less dense one went", x.count(4), 1);
        x.multiplier(0, 0);
        x.limit(0, 50);
        x.item(5, 50, 0, 0);
        // all three are relaxed: 1 goes, then 0, of the like ones the lower
        due("repair()", x.repair(), 5);
        due("count(4)", x.count(4), 4);
        x.multiplier(0, 10);
        // none is relaxed: 0 is put in
        due("repair(), as much", x.repair(), 5);
        due("count(4)", x.count(4), 4);
        x = with(of(0, 50), of(0, 50));
        due("repair(), nothing", x.repair(), 0);
        due("count(4), a set worth nothing", x.count(4), 1);
    }

    private static void repairedByRepairAlone() {
        sentence("of those that were repaired by repair()");
        RelaxedSteps x = with(of(5, 50), of(6, 40));
        x.repaired(3);
        x.best(1);
        x.step(1);
        due("count(4)", x.count(4), NONE);
        due("carryOut()", carried(x, "x"), 1);
        due("count(5), an order of a text is repair(), too", x.count(5), x.repair());
    }

    private static void solutionForgotten() {
        sentence("it is forgotten whenever an item or a limit changes. (The best solution.)");
        RelaxedSteps x = with(of(5, 50));
        x.repair();
        x.multiplier(0, 5);
        x.rule(TARGET, 5);
        x.step(3);
        due("count(5), no item or limit changed", x.count(5), 5);
        x.limit(2, 50);
        due("count(5), limit()", x.count(5), NONE);
        x.repair();
        x.item(0, 0, 0, 0);
        due("count(5), item()", x.count(5), NONE);
        x.repair();
        x.drop(1);
        due("count(5), drop()", x.count(5), NONE);
        x.repair();
        carried(x, "l0=50");
        due("count(5), an order", x.count(5), NONE);
        x.repair();
        x.limit(0, 1000);
        x.drop(1);
        due("count(5), errors", x.count(5), 5);
    }

    // ---- texts

    private static void padOf80() {
        sentence("The pad is a text of at most 80 characters, a row of orders");
        RelaxedSteps x = new RelaxedSteps();
        Check.put(x, "x;".repeat(39) + "x");
        due("count(9)", x.count(9), 79);
        due("put(two)", x.put(Check.packed(";x")), TOO_MANY);
        due("put(eight)", x.put(Check.packed(";x;x;x;x")), TOO_MANY);
        due("put(one)", x.put(';'), 80);
        due("put(one more)", x.put('x'), TOO_MANY);
        due("fault(), it ends too early", x.fault(), 80);
        x.wipe();
        Check.put(x, "x;".repeat(39) + "s9");
        due("fault()", x.fault(), NONE);
        due("carryOut()", x.carryOut(), 40);
    }

    private static void grammar() {
        sentence("text = order { \";\" order }");
        String[] texts = {"i0:0,0,0", "l0=0", "r0", "s0", "x", "-0"};
        for (String text : texts) {
            due(text, faultOf(text), NONE);
            for (String behind : texts) {
                due(text + ";" + behind, faultOf(text + ";" + behind), NONE);
                due(text + behind, faultOf(text + behind), text.length());
            }
            due(text + ";", faultOf(text + ";"), text.length() + 1);
            due(";" + text, faultOf(";" + text), 0);
            due(text + ";;" + text, faultOf(text + ";;" + text), text.length() + 1);
        }
    }

    private static void firstThatCannotStand() {
        sentence("The fault is the index of the first character that cannot stand at its place when the text is read from left to "
            + "right");
        // ahead of each character: what could stand there
        String first = "ilrsx-";
        String digits = "0123456789";
        String[] could = {first, digits, digits + ":", digits + ":", ":", digits, digits + ",", digits, ",", digits, ";", first, "012",
            "=", digits, digits + ";", first, "012", ";", first, digits, digits + ";", first, ";", first, digits};
        String text = "i120:3,0,0;l1=5;r2;s7;x;-8";
        due("places", could.length, text.length());
        due(text, faultOf(text), NONE);
        for (int place = 0; place < text.length(); place++) {
            for (char sign = 33; sign <= 126; sign++) {
                String other = text.substring(0, place) + sign + text.substring(place + 1);
                int fault = faultOf(other);
                boolean stands = could[place].indexOf(sign) >= 0;
                Check.holds(other + " at " + place + ": " + fault, stands ? fault > place || fault == NONE : fault == place);
            }
        }
    }

    private static void aDigitIs0To2() {
        sentence("A digit is 0 to 2");
        for (int digit = 0; digit <= 9; digit++) {
            due("l" + digit + "=1", faultOf("l" + digit + "=1"), digit <= 2 ? NONE : 1);
            due("r" + digit, faultOf("r" + digit), digit <= 2 ? NONE : 1);
            due("r1" + digit, faultOf("r1" + digit), 2);
            due("l1" + digit + "=1", faultOf("l1" + digit + "=1"), 2);
        }
    }

    private static void aNumberIs0To999() {
        sentence("a number 0 to 999 .. (also of a digit by which a number would be above 999)");
        String[] ahead = {"s", "-", "l2=", "i", "i1:", "i1:2,", "i1:2,3,"};
        String[] behind = {"", "", "", ":2,3,4", ",3,4", ",4", ""};
        for (int k = 0; k < ahead.length; k++) {
            for (String good : new String[] {"0", "9", "10", "99", "100", "999"}) {
                due(ahead[k] + good + behind[k], faultOf(ahead[k] + good + behind[k]), NONE);
            }
            for (String wrong : new String[] {"1000", "9990", "9999", "1234"}) {
                due(ahead[k] + wrong + behind[k], faultOf(ahead[k] + wrong + behind[k]), ahead[k].length() + 3);
            }
        }
        due("a fifth digit", faultOf("s12345"), 4);
    }

    private static void noLeadingZeros() {
        sentence("a number 0 to 999, without leading zeros.");
        String[] ahead = {"s", "-", "l2=", "i", "i1:", "i1:2,", "i1:2,3,"};
        for (String text : ahead) {
            for (String wrong : new String[] {"00", "01", "09", "000", "0999"}) {
                due(text + wrong, faultOf(text + wrong), text.length() + 1);
            }
        }
    }

    private static void endsTooEarly() {
        sentence("if there is none and the text ends too early (also if it is empty), it is the length of the text.");
        due("the empty text", new RelaxedSteps().fault(), 0);
        String text = "i12:3,45,678;l1=50;r2;s7;x;-8";
        String whole = " i12:3,45,6 i12:3,45,67 i12:3,45,678 i12:3,45,678;l1=5 i12:3,45,678;l1=50 i12:3,45,678;l1=50;r2"
            + " i12:3,45,678;l1=50;r2;s7 i12:3,45,678;l1=50;r2;s7;x i12:3,45,678;l1=50;r2;s7;x;-8 ";
        for (int length = 1; length <= text.length(); length++) {
            String ahead = text.substring(0, length);
            due(ahead, faultOf(ahead), whole.contains(" " + ahead + " ") ? NONE : length);
        }
    }

    private static void ordersAreCalls() {
        sentence("\"i\": item() with a worth and sizes; \"l\": limit(); \"s\": step(), so many times; \"x\": repair(); \"-\": drop() an "
            + "item.");
        RelaxedSteps x = new RelaxedSteps();
        due("i", carried(x, "i999:97,98,99"), 1);
        int[] item = {999, 97, 98, 99};
        for (int what = 0; what <= 3; what++) {
            due("ofItem(0, " + what + ")", x.ofItem(0, what), item[what]);
        }
        due("i, a size above 99", carried(x, "i0:100,0,0"), 0);
        due("i, a size above 99", carried(x, "i0:0,0,999"), 0);
        due("l", carried(x, "l0=0;l1=999;l2=7"), 3);
        due("ofDimension(0, 0)", x.ofDimension(0, 0), 0);
        due("ofDimension(1, 0)", x.ofDimension(1, 0), 999);
        due("ofDimension(2, 0)", x.ofDimension(2, 0), 7);
        due("s", carried(x, "s1;s99"), 2);
        due("count(8)", x.count(8), 100);
        due("s0", carried(x, "s0"), 0);
        due("s100", carried(x, "s100"), 0);
        due("x", carried(x, "x"), 1);
        due("count(4)", x.count(4), 0);
        due("-, no such item", carried(x, "-1"), 0);
        due("-999, no such item", carried(x, "-999"), 0);
        due("-", carried(x, "-0"), 1);
        due("count(0)", x.count(0), 0);
    }

    private static void ruleWithStepAsItIs() {
        sentence("\"r\": rule() with STEP as it is");
        RelaxedSteps x = new RelaxedSteps();
        carried(x, "r1");
        due("count(1)", x.count(1), FALLING);
        due("count(2), as at first", x.count(2), 100);
        x.rule(FIXED, 9999);
        carried(x, "r2");
        due("count(1)", x.count(1), TARGET);
        due("count(2)", x.count(2), 9999);
        x.rule(TARGET, 1);
        carried(x, "r0");
        due("count(1)", x.count(1), FIXED);
        due("count(2)", x.count(2), 1);
    }

    private static void theConstants() {
        sentence("`NO_SUCH = -1, BAD_VALUE = -2, BAD_TEXT = -3, TOO_MANY = -4, NOT_POSSIBLE = -5, NONE = -6`");
        due("NO_SUCH", RelaxedSteps.NO_SUCH, NO_SUCH);
        due("BAD_VALUE", RelaxedSteps.BAD_VALUE, BAD_VALUE);
        due("BAD_TEXT", RelaxedSteps.BAD_TEXT, BAD_TEXT);
        due("TOO_MANY", RelaxedSteps.TOO_MANY, TOO_MANY);
        due("NOT_POSSIBLE", RelaxedSteps.NOT_POSSIBLE, NOT_POSSIBLE);
        due("NONE", RelaxedSteps.NONE, NONE);
        due("FIXED", RelaxedSteps.FIXED, FIXED);
        due("FALLING", RelaxedSteps.FALLING, FALLING);
        due("TARGET", RelaxedSteps.TARGET, TARGET);
    }
}
