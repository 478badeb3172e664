import java.util.function.IntSupplier;
import java.util.function.IntUnaryOperator;

/**
 * A test of its own for each sentence of 'Promise 1' to 'Promise 24' that names a boundary case.
 * The promise and the sentence stand first in its test; the answers behind them are worked out by hand.
 */
public final class BoundariesTest {
    private static final int NO_SUCH = -1, BAD_VALUE = -2, BAD_TEXT = -3, TOO_MANY = -4, NOT_POSSIBLE = -5, NONE = -6;
    private static final int FIXED = 0, FALLING = 1, TARGET = 2;
    private static final int MIN = Integer.MIN_VALUE, MAX = Integer.MAX_VALUE;

    public static void main(String[] args) throws Exception {
        Check.everyTestOf(BoundariesTest.class);
        Check.finish();
    }

    private static void sentence(int promise, String words) {
        Check.part("promise " + promise + ", " + words);
    }

    private static void due(String call, long got, long want) {
        Check.due(call, got, want);
    }

    private static void dueFor(String call, IntUnaryOperator asked, int want, int... arguments) {
        for (int argument : arguments) {
            due(call.replace("?", "" + argument), asked.applyAsInt(argument), want);
        }
    }

    /** An object with items of a worth and three sizes. */
    private static RelaxedSteps with(int[]... items) {
        RelaxedSteps x = new RelaxedSteps();
        for (int[] item : items) {
            x.item(item[0], item[1], item[2], item[3]);
        }
        return x;
    }

    private static int[] of(int worth, int a, int b, int c) {
        return new int[] {worth, a, b, c};
    }

    private static int carried(RelaxedSteps x, String text) {
        Check.put(x, text);
        return x.carryOut();
    }

    /** The call is recorded as one change, answers what is due, and is undone whole. */
    private static void change(RelaxedSteps x, IntSupplier call, int want) {
        int before = x.count(10);
        String picture = Check.picture(x);
        due("the change's answer", call.getAsInt(), want);
        due("count(10)", x.count(10), Math.min(6, before + 1));
        due("undo()", x.undo(), Math.min(6, before + 1) - 1);
        Check.holds("all is as it was", Check.picture(x).equals(picture));
    }

    // ---- promise 1

    private static void newObject() {
        sentence(1, "Creates limits without items.");
        RelaxedSteps x = new RelaxedSteps();
        due("count(0)", x.count(0), 0);
        due("count(3)", x.count(3), 0);
        dueFor("ofDimension(?, 0)", k -> x.ofDimension(k, 0), 50, 0, 1, 2);
        due("drop(0)", x.drop(0), NO_SUCH);
        due("ofItem(0, 0)", x.ofItem(0, 0), NO_SUCH);
        due("bound(0)", x.bound(0), 0);
        due("bound(1)", x.bound(1), 0);
        due("bound(2)", x.bound(2), 0);
        due("best(0)", x.best(0), 0);
        due("best(1)", x.best(1), 0);
        due("worthOf(0, 99)", x.worthOf(0, 99), 0);
        due("repaired(MAX)", x.repaired(MAX), 0);
    }

    private static void newObjectApart() {
        sentence(1, "Creates limits without items. (It shares nothing with another object.)");
        RelaxedSteps other = with(of(9, 1, 1, 1));
        other.limit(0, 7);
        other.multiplier(1, 9);
        other.repair();
        other.step(2);
        other.save(0);
        other.put('x');
        RelaxedSteps x = new RelaxedSteps();
        int[] due = {0, FIXED, 100, 0, NONE, NONE, 0, 0, 0, 0, 0};
        for (int what = 0; what < due.length; what++) {
            due("count(" + what + ")", x.count(what), due[what]);
        }
        due("ofDimension(0, 0)", x.ofDimension(0, 0), 50);
        due("ofDimension(1, 1)", x.ofDimension(1, 1), 0);
        due("restore(0)", x.restore(0), NOT_POSSIBLE);
        due("undo()", x.undo(), NOT_POSSIBLE);
        x.item(1, 2, 3, 4);
        due("ofItem(0, 0) of the other", other.ofItem(0, 0), 9);
        due("count(9) of the other", other.count(9), 1);
    }

    // ---- promise 2

    private static void itemIsAChange() {
        sentence(2, "An item comes. This is a change.");
        RelaxedSteps x = with(of(60, 20, 10, 5));
        x.multiplier(0, 100);
        x.multiplier(0, 50);
        x.step(2);
        x.repair();
        change(x, () -> x.item(0, 0, 0, 0), 1);
    }

    private static void itemSizes() {
        sentence(2, "a: its size in the dimension 0, 0 to 99; b and c likewise in the others");
        RelaxedSteps x = with(of(1, 99, 0, 0), of(1, 0, 99, 0), of(1, 0, 0, 99));
        for (int item = 0; item < 3; item++) {
            for (int dimension = 0; dimension < 3; dimension++) {
                due("size of " + item + " in " + dimension, x.ofItem(item, 1 + dimension), item == dimension ? 99 : 0);
            }
        }
        dueFor("item(1, ?, 0, 0)", k -> x.item(1, k, 0, 0), BAD_VALUE, -1, 100, MIN, MAX);
        dueFor("item(1, 0, ?, 0)", k -> x.item(1, 0, k, 0), BAD_VALUE, -1, 100, MIN, MAX);
        dueFor("item(1, 0, 0, ?)", k -> x.item(1, 0, 0, k), BAD_VALUE, -1, 100, MIN, MAX);
    }

    private static void itemOutOfRange() {
        sentence(2, "BAD_VALUE if an argument is out of range");
        RelaxedSteps x = new RelaxedSteps();
        dueFor("item(?, 0, 0, 0)", k -> x.item(k, 0, 0, 0), BAD_VALUE, -1, 1000, MIN, MAX);
        dueFor("item(?, ?, ?, ?)", k -> x.item(k, k, k, k), BAD_VALUE, -1, 100, MIN, MAX);
        due("count(0)", x.count(0), 0);
        due("item(0, 99, 0, 99)", x.item(0, 99, 0, 99), 0);
        due("item(999, 0, 99, 0)", x.item(999, 0, 99, 0), 1);
    }

    private static void itemReturnsItsNumber() {
        sentence(2, "Returns its number");
        RelaxedSteps x = new RelaxedSteps();
        for (int number = 0; number < 16; number++) {
            due("item", x.item(5, 5, 5, 5), number);
        }
        x.drop(3);
        due("item, after one was dropped", x.item(6, 6, 6, 6), 15);
        due("ofItem(15, 0)", x.ofItem(15, 0), 6);
        due("ofItem(14, 0)", x.ofItem(14, 0), 5);
    }

    private static void itemTooMany() {
        sentence(2, "TOO_MANY if there are 16 items.");
        RelaxedSteps x = new RelaxedSteps();
        for (int number = 0; number < 16; number++) {
            x.item(5, 5, 5, 5);
        }
        due("item, the 17th", x.item(5, 5, 5, 5), TOO_MANY);
        due("an order, the 17th", carried(x, "i5:5,5,5"), 0);
        due("count(0)", x.count(0), 16);
        x.drop(15);
        due("item, the 16th again", x.item(5, 5, 5, 5), 15);
        due("item, the 17th again", x.item(5, 5, 5, 5), TOO_MANY);
    }

    // ---- promise 3

    private static void dropIsAChange() {
        sentence(3, "Drops an item. This is a change.");
        RelaxedSteps x = with(of(60, 20, 10, 5), of(40, 20, 30, 5), of(9, 9, 9, 9));
        x.step(2);
        x.repair();
        change(x, () -> x.drop(0), 2);
        change(x, () -> x.drop(2), 2);
    }

    private static void dropReturnsHowMany() {
        sentence(3, "Returns how many items there are then");
        RelaxedSteps x = new RelaxedSteps();
        for (int number = 0; number < 16; number++) {
            x.item(number, 1, 1, 1);
        }
        for (int left = 15; left >= 0; left--) {
            due("drop, " + left + " left", x.drop(left % 2 == 0 ? 0 : left), left);
        }
        due("count(0)", x.count(0), 0);
    }

    private static void dropNoSuch() {
        sentence(3, "NO_SUCH if there is no such item.");
        RelaxedSteps x = new RelaxedSteps();
        dueFor("drop(?), none", x::drop, NO_SUCH, 0, -1, 15, 16, MIN, MAX);
        x.item(1, 1, 1, 1);
        x.item(2, 1, 1, 1);
        dueFor("drop(?), two", x::drop, NO_SUCH, 2, -1, 16, MIN, MAX);
        due("drop(1)", x.drop(1), 1);
        due("drop(1), it's gone", x.drop(1), NO_SUCH);
        due("ofItem(1, 0), it's gone", x.ofItem(1, 0), NO_SUCH);
    }

    private static void dropOfAnItemLeavesTheOthersAlone() {
        sentence(3, "Drops an item. (What was behind it keeps its sizes, what it was has gone.)");
        RelaxedSteps x = new RelaxedSteps();
        for (int k = 0; k < 16; k++) {
            x.item(k, 0, k, 0);
        }
        x.drop(7);
        x.limit(1, 999);
        // 0 to 15 without 7
        due("repaired(65535)", x.repaired(65535), 32767);
        due("ofDimension(1, 2)", x.ofDimension(1, 2), 10000 + 113 - 999);
        due("best(0)", x.best(0), 113);
        due("count(3), the first one is worth nothing", x.count(3), 32766);
    }

    // ---- promise 4

    private static void limitForgetsToo() {
        sentence(4, "Changes a limit (also to what it is: that forgets, too). This is a change.");
        RelaxedSteps x = with(of(60, 60, 0, 0));
        x.multiplier(0, 20);
        x.multiplier(0, 0);
        x.step(3);
        x.multiplier(0, 0);
        x.repair();
        change(x, () -> x.limit(0, 50), 50);
        // the first step: 100 by 10, then it turns
        due("bound(1)", x.bound(1), 5800);
        due("count(7)", x.count(7), 3);
        due("count(5)", x.count(5), 0);
        due("limit(0, 50) as it is", x.limit(0, 50), 50);
        due("bound(1)", x.bound(1), 6000);
        due("count(7)", x.count(7), 0);
        due("count(5)", x.count(5), NONE);
        due("count(8), not forgotten", x.count(8), 3);
        due("ofDimension(0, 0)", x.ofDimension(0, 0), 50);
        due("another", x.limit(2, 50), 50);
    }

    private static void limitReturnsThePrevious() {
        sentence(4, "Returns the previous one");
        RelaxedSteps x = new RelaxedSteps();
        for (int dimension = 0; dimension < 3; dimension++) {
            due("limit to 999", x.limit(dimension, 999), 50);
            due("limit to 0", x.limit(dimension, 0), 999);
            due("limit to 1", x.limit(dimension, 1), 0);
        }
    }

    private static void limitNoSuch() {
        sentence(4, "NO_SUCH if there is no such dimension");
        RelaxedSteps x = new RelaxedSteps();
        dueFor("limit(?, 50)", k -> x.limit(k, 50), NO_SUCH, -1, 3, MIN, MAX);
        due("limit(2, 50)", x.limit(2, 50), 50);
    }

    private static void limitOutOfRange() {
        sentence(4, "BAD_VALUE if limit is out of range. limit: 0 to 999");
        RelaxedSteps x = new RelaxedSteps();
        dueFor("limit(2, ?)", k -> x.limit(2, k), BAD_VALUE, -1, 1000, MIN, MAX);
        due("ofDimension(2, 0)", x.ofDimension(2, 0), 50);
        due("limit(2, 999)", x.limit(2, 999), 50);
        due("limit(2, 0)", x.limit(2, 0), 999);
    }

    // ---- promise 5

    private static void ruleIsAChange() {
        sentence(5, "Changes the rule and STEP. This is a change.");
        RelaxedSteps x = with(of(60, 60, 0, 0));
        x.step(2);
        x.repair();
        change(x, () -> x.rule(TARGET, 9999), FIXED);
        change(x, () -> x.rule(FIXED, 100), FIXED);
        x.rule(FALLING, 3);
        due("count(1)", x.count(1), FALLING);
        due("count(2)", x.count(2), 3);
        due("count(7), nothing is forgotten", x.count(7), 2);
        due("count(5), nothing is forgotten", x.count(5), 0);
        due("count(6)", x.count(6), 2);
    }

    private static void ruleReturnsThePrevious() {
        sentence(5, "Returns the previous rule");
        RelaxedSteps x = new RelaxedSteps();
        due("rule(0, 1)", x.rule(FIXED, 1), FIXED);
        due("rule(2, 9999)", x.rule(TARGET, 9999), FIXED);
        due("rule(1, 1)", x.rule(FALLING, 1), TARGET);
        due("rule(1, 2)", x.rule(FALLING, 2), FALLING);
    }

    private static void ruleOutOfRange() {
        sentence(5, "BAD_VALUE if an argument is out of range. rule: 0 to 2, step: 1 to 9999");
        RelaxedSteps x = new RelaxedSteps();
        dueFor("rule(?, 5)", k -> x.rule(k, 5), BAD_VALUE, -1, 3, MIN, MAX);
        dueFor("rule(1, ?)", k -> x.rule(FALLING, k), BAD_VALUE, 0, -1, 10000, MIN, MAX);
        due("count(1)", x.count(1), FIXED);
        due("count(2)", x.count(2), 100);
        due("rule(2, 1)", x.rule(TARGET, 1), FIXED);
        due("count(2)", x.count(2), 1);
        due("rule(0, 9999)", x.rule(FIXED, 9999), TARGET);
        due("count(2)", x.count(2), 9999);
    }

    // ---- promise 6

    private static void multiplierIsAChange() {
        sentence(6, "Changes a multiplier. This is a change.");
        RelaxedSteps x = with(of(60, 60, 0, 0));
        // 100 by a slope of 10
        x.step(1);
        x.repair();
        change(x, () -> x.multiplier(0, 999999), 1000);
        change(x, () -> x.multiplier(0, 1000), 1000);
        change(x, () -> x.multiplier(2, 1), 0);
        x.multiplier(1, 8);
        due("count(7), nothing is forgotten", x.count(7), 1);
        due("count(5), nothing is forgotten", x.count(5), 0);
        due("count(6), nothing is forgotten", x.count(6), 1);
        due("ofDimension(0, 1), another", x.ofDimension(0, 1), 1000);
    }

    private static void multiplierReturnsThePrevious() {
        sentence(6, "Returns the previous one");
        RelaxedSteps x = new RelaxedSteps();
        for (int dimension = 0; dimension < 3; dimension++) {
            due("multiplier to 999999", x.multiplier(dimension, 999999), 0);
            due("multiplier to 1", x.multiplier(dimension, 1), 999999);
            due("multiplier to 0", x.multiplier(dimension, 0), 1);
        }
    }

    private static void multiplierNoSuch() {
        sentence(6, "NO_SUCH if there is no such dimension");
        RelaxedSteps x = new RelaxedSteps();
        dueFor("multiplier(?, 5)", k -> x.multiplier(k, 5), NO_SUCH, -1, 3, MIN, MAX);
        due("multiplier(2, 5)", x.multiplier(2, 5), 0);
    }

    private static void multiplierOutOfRange() {
        sentence(6, "BAD_VALUE if hundredths is out of range. hundredths: 0 to 999999");
        RelaxedSteps x = new RelaxedSteps();
        dueFor("multiplier(1, ?)", k -> x.multiplier(1, k), BAD_VALUE, -1, 1000000, MIN, MAX);
        due("ofDimension(1, 1)", x.ofDimension(1, 1), 0);
        due("multiplier(1, 999999)", x.multiplier(1, 999999), 0);
        due("multiplier(1, 0)", x.multiplier(1, 0), 999999);
    }

    // ---- promise 7

    private static void stepIsAChange() {
        sentence(7, "Makes steps. This is a change.");
        RelaxedSteps x = with(of(60, 60, 0, 0));
        // 100 by 10, which makes the item too dear; then it turns: 0, 50, .. by -50
        change(x, () -> x.step(1), 0);
        change(x, () -> x.step(99), 0);
        x.multiplier(0, 30);
        x.rule(FIXED, 1);
        change(x, () -> x.step(99), 7);
    }

    private static void stepMany() {
        sentence(7, "BAD_VALUE if many is out of range. many: 1 to 99");
        RelaxedSteps x = new RelaxedSteps();
        dueFor("step(?)", x::step, BAD_VALUE, 0, -1, 100, MIN, MAX);
        due("count(8)", x.count(8), 0);
        due("step(1)", x.step(1), 0);
        due("count(8)", x.count(8), 1);
        due("step(99)", x.step(99), 0);
        due("count(8)", x.count(8), 100);
    }

    private static void stepReturnsHowManyBetter() {
        sentence(7, "Returns how many of them made the best bound less");
        // a slope of 10 by 1: the bound is 10000 - 10 * multiplier, until 170 is too dear
        RelaxedSteps x = with(of(100, 60, 0, 0));
        x.rule(FIXED, 1);
        due("step(3), all of them", x.step(3), 3);
        due("bound(1)", x.bound(1), 9700);
        x.multiplier(0, 0);
        due("step(3), no less than before", x.step(3), 0);
        due("step(1), less", x.step(1), 1);
        due("bound(1)", x.bound(1), 9600);
        due("step(13), all but the last are", x.step(13), 12);
        due("ofDimension(0, 1)", x.ofDimension(0, 1), 170);
        due("bound(1), at 160", x.bound(1), 8400);
        due("bound(0), at 170", x.bound(0), 8500);
        // down by 50 to 120, then up again
        due("step(5)", x.step(5), 0);
        RelaxedSteps still = new RelaxedSteps();
        still.limit(0, 0);
        due("step(99), as much isn't less", still.step(99), 0);
        still.multiplier(1, 100);
        still.limit(1, 1);
        still.rule(FIXED, 1);
        due("step(99), a hundred by 1", still.step(99), 99);
        due("step(99), one is left", still.step(99), 1);
    }

    // ---- promise 8

    private static void repairIsAChange() {
        sentence(8, "Repairs the relaxed set. This is a change.");
        RelaxedSteps x = with(of(60, 60, 0, 0), of(9, 50, 0, 0));
        change(x, x::repair, 9);
        x.repair();
        change(x, x::repair, 9);
        due("the relaxed set stays", x.count(3), 3);
    }

    private static void repairReturnsTheWorth() {
        sentence(8, "Returns the worth of the repaired set. (Not that of the best solution.)");
        RelaxedSteps x = new RelaxedSteps();
        due("repair(), no items", x.repair(), 0);
        x.item(9, 50, 0, 0);
        x.item(7, 40, 0, 1);
        x.multiplier(2, 700);
        // only 0 is relaxed
        due("repair()", x.repair(), 9);
        x.multiplier(2, 0);
        x.multiplier(0, 18);
        // 900 - 900 and 700 - 720: the empty set, into which 0 is put
        due("repair(), the empty set", x.repair(), 9);
        x.multiplier(0, 0);
        x.drop(0);
        x.item(6, 11, 0, 0);
        x.multiplier(2, 700);
        x.multiplier(0, 0);
        // 1 is relaxed, 0 (7 for 40) doesn't fit beside it
        due("repair(), less than the best", x.repair(), 6);
        due("best(0)", x.best(0), 7);
        x.multiplier(2, 0);
        // 7 for 41 goes, 6 for 11 stays
        due("repair(), both", x.repair(), 6);
        x.multiplier(0, 60);
        due("repair(), none relaxed", x.repair(), 7);
        x.multiplier(0, 0);
        due("repair(), both again", x.repair(), 6);
        due("count(5)", x.count(5), 7);
    }

    // ---- promise 9

    private static void ofItemWhat() {
        sentence(9, "what: 0 its worth, 1 to 3 its sizes, 4 its price and 1000000000");
        RelaxedSteps x = with(of(0, 0, 0, 0), of(999, 99, 98, 97));
        dueFor("ofItem(0, ?)", k -> x.ofItem(0, k), 0, 0, 1, 2, 3);
        due("ofItem(0, 4), a price of 0", x.ofItem(0, 4), 1000000000);
        due("ofItem(1, 0)", x.ofItem(1, 0), 999);
        due("ofItem(1, 1)", x.ofItem(1, 1), 99);
        due("ofItem(1, 2)", x.ofItem(1, 2), 98);
        due("ofItem(1, 3)", x.ofItem(1, 3), 97);
        due("ofItem(1, 4)", x.ofItem(1, 4), 1000099900);
        x.multiplier(2, 999999);
        due("ofItem(1, 4), below 0", x.ofItem(1, 4), 1000099900 - 97 * 999999);
    }

    private static void ofItemRelaxed() {
        sentence(9, "5 whether it is in the relaxed set (1 or 0)");
        RelaxedSteps x = with(of(1, 1, 0, 0), of(0, 0, 0, 0));
        for (int k = 2; k < 15; k++) {
            x.item(0, 0, 0, 0);
        }
        x.item(3, 2, 0, 0);
        due("ofItem(0, 5), 100", x.ofItem(0, 5), 1);
        due("ofItem(1, 5), a price of 0", x.ofItem(1, 5), 0);
        due("ofItem(15, 5), 300", x.ofItem(15, 5), 1);
        x.multiplier(0, 99);
        due("ofItem(0, 5), 1", x.ofItem(0, 5), 1);
        x.multiplier(0, 100);
        due("ofItem(0, 5), 0", x.ofItem(0, 5), 0);
        due("ofItem(15, 5), 100", x.ofItem(15, 5), 1);
        x.multiplier(0, 151);
        due("ofItem(15, 5), -2", x.ofItem(15, 5), 0);
    }

    private static void ofItemInTheSolution() {
        sentence(9, "6 whether it is in the best solution (1 or 0)");
        RelaxedSteps x = with(of(5, 50, 0, 0), of(6, 50, 0, 0));
        due("ofItem(0, 6), without a solution", x.ofItem(0, 6), 0);
        due("ofItem(1, 6), without a solution", x.ofItem(1, 6), 0);
        x.repair();
        due("ofItem(0, 6)", x.ofItem(0, 6), 0);
        due("ofItem(1, 6)", x.ofItem(1, 6), 1);
        x.limit(0, 50);
        due("ofItem(1, 6), forgotten", x.ofItem(1, 6), 0);
        RelaxedSteps all = new RelaxedSteps();
        for (int k = 0; k < 16; k++) {
            all.item(1, 0, 0, 0);
        }
        all.repair();
        due("ofItem(0, 6), all", all.ofItem(0, 6), 1);
        due("ofItem(15, 6), all", all.ofItem(15, 6), 1);
    }

    private static void ofItemNoSuch() {
        sentence(9, "NO_SUCH if there is no such item");
        RelaxedSteps x = new RelaxedSteps();
        dueFor("ofItem(?, 0), none", k -> x.ofItem(k, 0), NO_SUCH, 0, -1, 16, MIN, MAX);
        x.item(1, 1, 1, 1);
        dueFor("ofItem(?, 5), one", k -> x.ofItem(k, 5), NO_SUCH, 1, -1, 16, MIN, MAX);
        for (int k = 1; k < 16; k++) {
            x.item(k, k, k, k);
        }
        due("ofItem(15, 0)", x.ofItem(15, 0), 15);
        dueFor("ofItem(?, 6), 16", k -> x.ofItem(k, 6), NO_SUCH, 16, -1, MIN, MAX);
    }

    private static void ofItemOutOfRange() {
        sentence(9, "BAD_VALUE if what is out of range.");
        RelaxedSteps x = with(of(1, 1, 1, 1));
        dueFor("ofItem(0, ?)", k -> x.ofItem(0, k), BAD_VALUE, -1, 7, MIN, MAX);
    }

    // ---- promise 10

    private static void ofDimensionWhat() {
        sentence(10, "what: 0 its limit, 1 its multiplier, 2 its slope and 10000");
        RelaxedSteps x = with(of(1, 10, 50, 99));
        x.limit(0, 999);
        x.multiplier(0, 1);
        due("ofDimension(0, 0)", x.ofDimension(0, 0), 999);
        due("ofDimension(0, 1)", x.ofDimension(0, 1), 1);
        due("ofDimension(0, 2), below 0", x.ofDimension(0, 2), 10000 - 989);
        due("ofDimension(1, 2), 0", x.ofDimension(1, 2), 10000);
        due("ofDimension(2, 2), above 0", x.ofDimension(2, 2), 10049);
        x.multiplier(0, 10);
        due("ofDimension(2, 2), none relaxed", x.ofDimension(2, 2), 9950);
    }

    private static void ofDimensionUse() {
        sentence(10, "3 what the best solution uses of it, 4 whether that is just the limit (1 or 0)");
        RelaxedSteps x = with(of(5, 0, 49, 99), of(4, 0, 1, 99), of(0, 0, 0, 0));
        x.limit(0, 0);
        x.limit(2, 199);
        x.repair();
        due("ofDimension(0, 3), nothing", x.ofDimension(0, 3), 0);
        due("ofDimension(0, 4), nothing of 0", x.ofDimension(0, 4), 1);
        due("ofDimension(1, 3)", x.ofDimension(1, 3), 50);
        due("ofDimension(1, 4), just", x.ofDimension(1, 4), 1);
        due("ofDimension(2, 3)", x.ofDimension(2, 3), 198);
        due("ofDimension(2, 4), one is left", x.ofDimension(2, 4), 0);
        x.limit(0, 1);
        x.repair();
        due("ofDimension(0, 4), nothing of 1", x.ofDimension(0, 4), 0);
    }

    private static void ofDimensionWithoutOne() {
        sentence(10, "(3, 4: NONE without one)");
        RelaxedSteps x = with(of(5, 1, 1, 1));
        for (int dimension = 0; dimension < 3; dimension++) {
            due("ofDimension(" + dimension + ", 3)", x.ofDimension(dimension, 3), NONE);
            due("ofDimension(" + dimension + ", 4)", x.ofDimension(dimension, 4), NONE);
        }
        x.limit(0, 0);
        x.repair();
        due("ofDimension(1, 3), an empty one", x.ofDimension(1, 3), 0);
        due("ofDimension(1, 4), an empty one", x.ofDimension(1, 4), 0);
        due("ofDimension(0, 4), an empty one", x.ofDimension(0, 4), 1);
        x.limit(0, 0);
        due("ofDimension(0, 4), forgotten", x.ofDimension(0, 4), NONE);
    }

    private static void ofDimensionNoSuch() {
        sentence(10, "NO_SUCH if there is no such dimension");
        RelaxedSteps x = new RelaxedSteps();
        for (int what = 0; what <= 4; what++) {
            int asked = what;
            dueFor("ofDimension(?, " + what + ")", k -> x.ofDimension(k, asked), NO_SUCH, -1, 3, MIN, MAX);
        }
    }

    private static void ofDimensionOutOfRange() {
        sentence(10, "BAD_VALUE if what is out of range.");
        RelaxedSteps x = new RelaxedSteps();
        dueFor("ofDimension(2, ?)", k -> x.ofDimension(2, k), BAD_VALUE, -1, 5, MIN, MAX);
        x.repair();
        dueFor("ofDimension(0, ?)", k -> x.ofDimension(0, k), BAD_VALUE, -1, 5, MIN, MAX);
    }

    // ---- promise 11

    private static void bundleNoSuch() {
        sentence(11, "NO_SUCH if there is no such place. place: 0 for the first one");
        RelaxedSteps x = new RelaxedSteps();
        dueFor("bundle(?), empty", x::bundle, NO_SUCH, 0, -1, 7, 8, MIN, MAX);
        for (int worth = 1; worth <= 10; worth++) {
            x.item(worth, 1, 0, 0);
        }
        x.step(1);
        due("bundle(0)", x.bundle(0), 1023);
        dueFor("bundle(?), one", x::bundle, NO_SUCH, 1, -1, 7, 8, MIN, MAX);
        for (int worth = 1; worth <= 8; worth++) {
            x.multiplier(0, 100 * worth);
            x.step(1);
        }
        due("bundle(0), full", x.bundle(0), 1022);
        due("bundle(7), full", x.bundle(7), 768);
        dueFor("bundle(?), full", x::bundle, NO_SUCH, 8, -1, MIN, MAX);
    }

    // ---- promise 12

    private static void countOfItemsAndRules() {
        sentence(12, "what: 0 items, 1 the rule, 2 STEP, 3 the relaxed set");
        RelaxedSteps x = new RelaxedSteps();
        due("count(0), none", x.count(0), 0);
        due("count(3), none", x.count(3), 0);
        for (int k = 0; k < 16; k++) {
            x.item(1, 0, 0, 0);
        }
        due("count(0), 16", x.count(0), 16);
        due("count(3), 16", x.count(3), 65535);
        x.rule(TARGET, 9999);
        due("count(1)", x.count(1), TARGET);
        due("count(2)", x.count(2), 9999);
    }

    private static void countOfTheSolution() {
        sentence(12, "4 the best solution, as sets (4: NONE), 5 the worth of the best solution (NONE)");
        RelaxedSteps x = with(of(1, 51, 0, 0), of(0, 0, 51, 0));
        due("count(4), without one", x.count(4), NONE);
        due("count(5), without one", x.count(5), NONE);
        x.repair();
        due("count(4), the empty one", x.count(4), 0);
        due("count(5), the empty one", x.count(5), 0);
        x.undo();
        due("count(4), undone", x.count(4), NONE);
        x.limit(0, 51);
        x.limit(1, 51);
        x.repair();
        due("count(4)", x.count(4), 3);
        due("count(5)", x.count(5), 1);
    }

    private static void countOfSteps() {
        sentence(12, "6 sets in the bundle, 7 steps since the best bound was forgotten, 8 steps so far");
        RelaxedSteps x = new RelaxedSteps();
        x.step(99);
        due("count(6), one that is the same", x.count(6), 1);
        due("count(7)", x.count(7), 99);
        due("count(8)", x.count(8), 99);
        x.limit(0, 50);
        due("count(6), a limit", x.count(6), 1);
        due("count(7), a limit", x.count(7), 0);
        due("count(8), a limit", x.count(8), 99);
        x.step(1);
        x.item(1, 1, 1, 1);
        due("count(6), an item", x.count(6), 0);
        due("count(7), an item", x.count(7), 0);
        due("count(8), an item", x.count(8), 100);
        x.step(2);
        x.drop(0);
        due("count(7), dropped", x.count(7), 0);
        due("count(8), dropped", x.count(8), 102);
        x.step(0);
        x.step(100);
        due("count(8), errors", x.count(8), 102);
        x.boundThen();
        due("count(8), boundThen()", x.count(8), 102);
        x.undo();
        due("count(7), undone", x.count(7), 2);
    }

    private static void countOfThePad() {
        sentence(12, "9 the length of the pad");
        RelaxedSteps x = new RelaxedSteps();
        due("count(9), empty", x.count(9), 0);
        Check.put(x, "z".repeat(80));
        due("count(9), full", x.count(9), 80);
        x.put('z');
        due("count(9), no more", x.count(9), 80);
        x.wipe();
        due("count(9), wiped", x.count(9), 0);
    }

    private static void countOfChanges() {
        sentence(12, "10 how many changes can be undone");
        RelaxedSteps x = new RelaxedSteps();
        for (int changes = 0; changes <= 8; changes++) {
            due("count(10)", x.count(10), Math.min(6, changes));
            x.repair();
        }
        for (int left = 5; left >= 0; left--) {
            x.undo();
            due("count(10)", x.count(10), left);
        }
        x.undo();
        due("count(10)", x.count(10), 0);
    }

    private static void countOutOfRange() {
        sentence(12, "BAD_VALUE if what is out of range.");
        RelaxedSteps x = new RelaxedSteps();
        dueFor("count(?)", x::count, BAD_VALUE, -1, 11, MIN, MAX);
    }

    // ---- promise 13

    private static void gapWithAndWithout() {
        sentence(13, "2 the gap: the best bound less 100 times the worth of the best solution (0 without one)");
        RelaxedSteps x = with(of(60, 60, 0, 0), of(20, 0, 0, 0));
        due("bound(2), without one", x.bound(2), 8000);
        x.repair();
        due("bound(2)", x.bound(2), 6000);
        x.multiplier(0, 10);
        x.multiplier(0, 0);
        // the best bound: 5400 + 2000 + 500
        due("bound(2), by the best bound", x.bound(2), 5900);
        x.limit(0, 60);
        due("bound(2), forgotten", x.bound(2), 8000);
        x.repair();
        due("bound(2), no gap", x.bound(2), 0);
        x.drop(0);
        x.drop(0);
        due("bound(2), no items", x.bound(2), 0);
    }

    private static void boundsBeyondInt() {
        sentence(13, "what: 0 the bound of the multipliers, 1 the best bound. Returns the hundredths");
        RelaxedSteps x = new RelaxedSteps();
        due("bound(0), none", x.bound(0), 0);
        due("bound(1), none", x.bound(1), 0);
        for (int dimension = 0; dimension < 3; dimension++) {
            x.multiplier(dimension, 999999);
        }
        due("bound(1), since it was made", x.bound(1), 0);
        for (int dimension = 0; dimension < 3; dimension++) {
            x.limit(dimension, 999);
        }
        due("bound(0)", x.bound(0), 2996997003L);
        due("bound(1)", x.bound(1), 2996997003L);
        due("bound(2)", x.bound(2), 2996997003L);
        x.repair();
        x.rule(TARGET, 1);
        // 2996997003 / (3 * 999 * 999) is 1001, by -999
        due("boundThen()", x.boundThen(), 0);
        x.multiplier(0, 0);
        x.multiplier(1, 0);
        // 998999001 / 2994003 is 333, by -999: 667332
        due("boundThen()", x.boundThen(), 667332L * 999);
    }

    private static void boundOutOfRange() {
        sentence(13, "-2 if what is out of range.");
        RelaxedSteps x = new RelaxedSteps();
        for (int what : new int[] {-1, 3, MIN, MAX}) {
            due("bound(" + what + ")", x.bound(what), -2);
        }
    }

    // ---- promise 14

    private static void boundBehindOneStep() {
        sentence(14, "Returns the bound that there would be behind one step.");
        RelaxedSteps x = new RelaxedSteps();
        due("boundThen(), no items", x.boundThen(), 0);
        x.item(100, 60, 40, 50);
        x.multiplier(1, 30);
        // slopes 10, -10, 0; FIXED by 3: 30 and 0
        x.rule(FIXED, 3);
        due("boundThen(), FIXED", x.boundThen(), 10000 - 1800 + 1500);
        x.step(3);
        x.multiplier(0, 0);
        x.multiplier(1, 30);
        // FALLING, the fourth step: 11 / 4 is 2: 20 and 10
        x.rule(FALLING, 11);
        due("boundThen(), FALLING", x.boundThen(), 10000 - 1200 - 400 + 1000 + 500);
        // TARGET: 10000 - 1200 + 1500 by 200 is 51: 510 and 0, too dear
        x.rule(TARGET, 1);
        due("boundThen(), TARGET", x.boundThen(), 510 * 50);
        x.rule(FIXED, 9999);
        due("boundThen(), by 9999", x.boundThen(), 99990 * 50);
    }

    private static void boundThenChangesNothing() {
        sentence(14, "what if; nothing changes (boundThen)");
        RelaxedSteps x = with(of(100, 60, 40, 50), of(9, 9, 9, 9));
        x.multiplier(1, 30);
        x.step(2);
        x.repair();
        for (int rule = FIXED; rule <= TARGET; rule++) {
            x.rule(rule, 3);
            String before = Check.picture(x) + x.count(10);
            long then = x.boundThen();
            due("boundThen() again", x.boundThen(), then);
            Check.holds("nothing changes", before.equals(Check.picture(x) + x.count(10)));
            x.step(1);
            due("bound(0) behind the step", x.bound(0), then);
        }
    }

    private static void whatIfChangesNothing() {
        sentence(14, "what if; nothing changes. (Nor by any other question.)");
        RelaxedSteps x = with(of(100, 60, 40, 50), of(9, 9, 9, 9), of(9, 20, 9, 9));
        x.multiplier(1, 30);
        x.step(2);
        x.repair();
        Check.put(x, "s1;x");
        String before = Check.picture(x);
        IntSupplier[] questions = {() -> (int) x.boundThen(), () -> x.best(0), () -> x.best(1), () -> x.worthOf(0, 99),
            () -> x.worthOf(2, 1), () -> x.repaired(0), () -> x.repaired(7), () -> x.fault(), () -> x.ofItem(2, 5),
            () -> x.ofDimension(2, 4), () -> x.bundle(0), () -> x.count(3), () -> (int) x.bound(2), () -> x.save(0)};
        for (int k = 0; k < questions.length; k++) {
            questions[k].getAsInt();
            Check.holds("question " + k + " changes nothing", Check.picture(x).equals(before));
            due("count(9)", x.count(9), 4);
            due("count(10)", x.count(10), 6);
        }
    }

    // ---- promise 15

    private static void bestWorth() {
        sentence(15, "Returns the best that any set which fits has. what: 0 its worth");
        RelaxedSteps x = new RelaxedSteps();
        due("best(0), no items", x.best(0), 0);
        x.item(60, 30, 0, 0);
        x.item(50, 25, 0, 0);
        x.item(50, 25, 0, 0);
        due("best(0), not the greatest item", x.best(0), 100);
        x.limit(0, 49);
        due("best(0), one less", x.best(0), 60);
        x.limit(0, 80);
        due("best(0), all", x.best(0), 160);
        x.limit(0, 79);
        due("best(0), all but one unit", x.best(0), 110);
        x.limit(0, 24);
        due("best(0), none", x.best(0), 0);
        x.limit(0, 0);
        x.item(999, 0, 0, 0);
        due("best(0), a limit of 0", x.best(0), 999);
    }

    private static void bestWorthInThreeDimensions() {
        sentence(15, "Returns the best that any set which fits has. (In each dimension.)");
        RelaxedSteps x = with(of(10, 50, 1, 0), of(9, 0, 49, 1), of(8, 0, 0, 50), of(30, 1, 1, 1));
        // 0 and 3, 1 and 2, 2 and 3 use 51 of 50
        due("best(0), 1 and 3", x.best(0), 39);
        due("best(1), 1 and 3", x.best(1), 10);
        x.limit(0, 51);
        due("best(0), 0 and 3", x.best(0), 40);
        due("best(1), 0 and 3", x.best(1), 9);
        x.limit(1, 51);
        due("best(0), 0 and 1 and 3", x.best(0), 49);
        x.limit(2, 52);
        due("best(0), all", x.best(0), 57);
        due("best(1), all", x.best(1), 15);
    }

    private static void bestSetOfSeveral() {
        sentence(15, "1 the set, of several the one with the least number");
        RelaxedSteps x = new RelaxedSteps();
        due("best(1), no items", x.best(1), 0);
        x.item(0, 0, 0, 0);
        x.item(0, 1, 0, 0);
        due("best(1), items worth nothing", x.best(1), 0);
        x.item(30, 50, 0, 0);
        due("best(1)", x.best(1), 4);
        x.item(30, 50, 0, 0);
        due("best(1), one as good behind", x.best(1), 4);
        x.item(15, 25, 0, 0);
        x.item(15, 25, 0, 0);
        due("best(1), two as good behind", x.best(1), 4);
        // 3 is dropped, 4 and 5 move up
        x.drop(2);
        due("best(1), 2 of 2 to 4", x.best(1), 4);
        x.drop(2);
        due("best(1), both", x.best(1), 12);
        x.item(30, 50, 0, 0);
        due("best(1), both ahead are less than the one behind", x.best(1), 12);
        x.limit(0, 49);
        due("best(1), one of both", x.best(1), 4);
    }

    private static void bestSetOfItemsWorth1() {
        sentence(15, "1 the set. (Also if it lacks but the least worth.)");
        RelaxedSteps x = with(of(1, 0, 0, 0));
        due("best(1), one of 1", x.best(1), 1);
        x.item(1, 50, 0, 0);
        x.item(1, 50, 0, 0);
        due("best(0), two of 1", x.best(0), 2);
        due("best(1), two of 1", x.best(1), 3);
    }

    private static void bestSetBehindOthersThatFailed() {
        sentence(15, "1 the set. (It fits, whatever sets ahead of it don't.)");
        RelaxedSteps x = with(of(10, 30, 0, 0), of(20, 40, 0, 0), of(15, 25, 0, 0), of(25, 50, 0, 0));
        // 0 and 2 are worth 25, too, but use 55
        due("best(0)", x.best(0), 25);
        due("best(1)", x.best(1), 8);
        x.limit(0, 55);
        due("best(1), now they fit", x.best(1), 5);
        x.limit(0, 65);
        due("best(1), 1 and 2", x.best(1), 6);
    }

    private static void bestOutOfRange() {
        sentence(15, "BAD_VALUE if what is neither 0 nor 1.");
        RelaxedSteps x = new RelaxedSteps();
        dueFor("best(?)", x::best, BAD_VALUE, -1, 2, MIN, MAX);
    }

    // ---- promise 16

    private static void worthOfUnits() {
        sentence(16, "BAD_VALUE if units is out of range. units: 1 to 99");
        RelaxedSteps x = with(of(7, 51, 0, 0), of(5, 98, 0, 51));
        due("worthOf(0, 1)", x.worthOf(0, 1), 7);
        due("worthOf(0, 99)", x.worthOf(0, 99), 7);
        due("worthOf(2, 1)", x.worthOf(2, 1), 0);
        dueFor("worthOf(0, ?)", k -> x.worthOf(0, k), BAD_VALUE, 0, -1, 100, MIN, MAX);
        dueFor("worthOf(2, ?)", k -> x.worthOf(2, k), BAD_VALUE, 0, -1, 100, MIN, MAX);
    }

    private static void worthOfNoSuch() {
        sentence(16, "NO_SUCH if there is no such dimension");
        RelaxedSteps x = with(of(7, 51, 0, 0));
        dueFor("worthOf(?, 1)", k -> x.worthOf(k, 1), NO_SUCH, -1, 3, MIN, MAX);
    }

    private static void worthOfAGreaterLimit() {
        sentence(16, "Tells by how much the worth of the best set that fits would be greater if a limit was greater.");
        RelaxedSteps x = new RelaxedSteps();
        due("worthOf(0, 99), no items", x.worthOf(0, 99), 0);
        x.item(60, 30, 0, 0);
        x.item(50, 25, 0, 0);
        x.item(50, 25, 0, 0);
        due("worthOf(0, 4)", x.worthOf(0, 4), 0);
        due("worthOf(0, 5)", x.worthOf(0, 5), 10);
        due("worthOf(0, 29)", x.worthOf(0, 29), 10);
        due("worthOf(0, 30)", x.worthOf(0, 30), 60);
        due("worthOf(1, 99), another dimension", x.worthOf(1, 99), 0);
        x.limit(0, 0);
        due("worthOf(0, 24)", x.worthOf(0, 24), 0);
        due("worthOf(0, 25)", x.worthOf(0, 25), 50);
        due("ofDimension(0, 0), nothing changes", x.ofDimension(0, 0), 0);
        due("best(0), nothing changes", x.best(0), 0);
        due("count(10), nothing changes", x.count(10), 4);
    }

    private static void worthOfTheGreatestLimit() {
        sentence(16, "if a limit was greater. (Also by more than 999.)");
        RelaxedSteps x = new RelaxedSteps();
        for (int k = 0; k < 11; k++) {
            x.item(10 + k, 0, 0, 99);
        }
        x.limit(2, 999);
        // ten use 990; the eleventh is worth 10
        due("worthOf(2, 89)", x.worthOf(2, 89), 0);
        due("worthOf(2, 90)", x.worthOf(2, 90), 10);
    }

    // ---- promise 17

    private static void repairedSets() {
        sentence(17, "set: any items (others in it do not matter)");
        RelaxedSteps x = new RelaxedSteps();
        due("repaired(0), no items", x.repaired(0), 0);
        due("repaired(MAX), no items", x.repaired(MAX), 0);
        x.item(5, 50, 0, 0);
        x.item(6, 50, 0, 0);
        due("repaired(1)", x.repaired(1), 1);
        due("repaired(1 and 2 to 30)", x.repaired(MAX - 2), 1);
        due("repaired(2 and 16)", x.repaired(2 + (1 << 16)), 2);
        due("repaired(30 alone)", x.repaired(1 << 30), 1);
        for (int k = 2; k < 16; k++) {
            x.item(7, 0, 0, 0);
        }
        due("repaired(MAX), 16 items", x.repaired(MAX), 65534);
        due("repaired(16 alone), 16 items", x.repaired(1 << 16), 65533);
        due("count(4), nothing changes", x.count(4), NONE);
    }

    private static void repairedBelow0() {
        sentence(17, "BAD_VALUE if set is below 0.");
        RelaxedSteps x = with(of(5, 50, 0, 0));
        dueFor("repaired(?)", x::repaired, BAD_VALUE, -1, -2, MIN);
        due("repaired(0)", x.repaired(0), 1);
    }

    // ---- promise 18

    private static void putInOrder() {
        sentence(18, "its lowest 8 bits are the last character, the next 8 bits the one before, and so on");
        RelaxedSteps x = new RelaxedSteps();
        x.put('s');
        x.put('1' << 8 | '2');
        x.put('0' << 24 | ';' << 16 | 'x' << 8 | ';');
        x.put('r');
        due("fault(), it ends too early", x.fault(), 8);
        x.put('1');
        due("fault()", x.fault(), NONE);
        due("carryOut(), 120 steps are too many", x.carryOut(), 0);
        x.put(0x69313A322C332C34L);
        due("carryOut(), i1:2,3,4", x.carryOut(), 1);
        for (int what = 0; what <= 3; what++) {
            due("ofItem(0, " + what + ")", x.ofItem(0, what), 1 + what);
        }
    }

    private static void putManyCharacters() {
        sentence(18, "characters: 1 to 8 characters. Returns the length of the pad then");
        RelaxedSteps x = new RelaxedSteps();
        int length = 0;
        for (int many = 1; many <= 8; many++) {
            length += many;
            due("put of " + many, x.put(Check.packed("~!~!~!~!".substring(0, many))), length);
        }
        due("count(9)", x.count(9), 36);
    }

    private static void putNoCharacter() {
        sentence(18, "BAD_VALUE if there is no character");
        RelaxedSteps x = new RelaxedSteps();
        due("put(0)", x.put(0), BAD_VALUE);
        due("put('x' above 8 bits of 0)", x.put('x' << 8), BAD_VALUE);
        due("count(9)", x.count(9), 0);
    }

    private static void putOtherCodes() {
        sentence(18, "a code is not 33 to 126");
        for (int code = 1; code <= 255; code++) {
            for (int behind = 0; behind < 8; behind++) {
                RelaxedSteps x = new RelaxedSteps();
                // as the first character, as the last one of eight, and among eight
                long first = (long) code << (8 * behind) | (behind == 0 ? 0 : 0x7878787878787878L >>> (64 - 8 * behind));
                long among = 0x7878787878787878L & ~(255L << (8 * behind)) | (long) code << (8 * behind);
                boolean good = code >= 33 && code <= 126;
                due("put of " + code + " ahead of " + behind, x.put(first), good ? behind + 1 : BAD_VALUE);
                x.wipe();
                due("put of " + code + " among eight", x.put(among), good ? 8 : BAD_VALUE);
            }
        }
    }

    private static void putAboveZeroBits() {
        sentence(18, "8 bits that are 0 mean that there are no more characters, and everything above them has to be 0, too.");
        RelaxedSteps x = new RelaxedSteps();
        for (int place = 0; place < 8; place++) {
            for (int bit = 8 * place + 8; bit < 64; bit++) {
                // characters below the place, 0 at it, and one bit above
                long below = place == 0 ? 0 : 0x7878787878787878L >>> (64 - 8 * place);
                due("put with bit " + bit + " above place " + place, x.put(below | 1L << bit), BAD_VALUE);
            }
        }
        due("count(9)", x.count(9), 0);
        due("put of one without any", x.put('x'), 1);
    }

    private static void putTooMany() {
        sentence(18, "TOO_MANY if the pad would be longer than 80.");
        for (int many = 1; many <= 8; many++) {
            RelaxedSteps x = new RelaxedSteps();
            long characters = 0x7878787878787878L >>> (64 - 8 * many);
            Check.put(x, "x".repeat(80 - many));
            due("put of " + many + " to 80", x.put(characters), 80);
            due("put of " + many + " above 80", x.put(characters), TOO_MANY);
            x.wipe();
            Check.put(x, "x".repeat(81 - many));
            due("put of " + many + " to 81", x.put(characters), TOO_MANY);
            due("count(9)", x.count(9), 81 - many);
        }
    }

    // ---- promise 19

    private static void wipeReturnsTheLength() {
        sentence(19, "Empties the pad, and returns the length that it had.");
        RelaxedSteps x = new RelaxedSteps();
        due("wipe(), empty", x.wipe(), 0);
        x.put('x');
        due("wipe(), one", x.wipe(), 1);
        due("wipe(), empty again", x.wipe(), 0);
        due("fault(), empty", x.fault(), 0);
        Check.put(x, "x".repeat(80));
        due("wipe(), full", x.wipe(), 80);
        due("count(9)", x.count(9), 0);
        x.put('x');
        due("fault(), nothing is left of it", x.fault(), NONE);
        due("count(10), no change", x.count(10), 0);
    }

    // ---- promise 20

    private static void faultNone() {
        sentence(20, "Returns the fault of the pad, NONE if there is none.");
        RelaxedSteps x = new RelaxedSteps();
        due("fault(), empty", x.fault(), 0);
        x.put('x');
        due("fault()", x.fault(), NONE);
        due("fault() again", x.fault(), NONE);
        x.put(';');
        due("fault(), it ends too early", x.fault(), 2);
        x.put(';');
        due("fault(), it can't stand", x.fault(), 2);
        x.wipe();
        Check.put(x, "s0;-999;i999:999,999,999");
        due("fault(), orders that will return errors", x.fault(), NONE);
        due("count(10), no change", x.count(10), 0);
    }

    // ---- promise 21

    private static void carryOutBadText() {
        sentence(21, "BAD_TEXT if the pad has a fault (then it stays).");
        RelaxedSteps x = new RelaxedSteps();
        due("carryOut(), empty", x.carryOut(), BAD_TEXT);
        due("carryOut(), behind an order", carried(x, "i1:2,3,4;"), BAD_TEXT);
        due("count(9)", x.count(9), 9);
        due("count(0), nothing is carried out", x.count(0), 0);
        due("count(10)", x.count(10), 0);
        due("carryOut(), it goes on", carried(x, "x"), 2);
        due("count(0)", x.count(0), 1);
    }

    private static void carryOutUpToAnError() {
        sentence(21, "Carries the orders of the pad out, one after the other, up to the first one that returns an error, and empties the "
            + "pad.");
        RelaxedSteps x = new RelaxedSteps();
        due("the first one", carried(x, "-0;i1:2,3,4"), 0);
        due("count(0)", x.count(0), 0);
        due("count(9)", x.count(9), 0);
        due("one in the middle", carried(x, "i1:2,3,4;i5:6,7,8;-2;-0;-0"), 2);
        due("count(0)", x.count(0), 2);
        due("count(9)", x.count(9), 0);
        due("the last one", carried(x, "-0;-0;-0"), 2);
        due("count(0)", x.count(0), 0);
        due("none of them", carried(x, "i1:2,3,4;-0;l0=9;r1;s9;x"), 6);
        due("an order that answers 0 is none", carried(x, "x;x"), 2);
        due("step() so many times", carried(x, "s99;s100;s1"), 1);
        due("count(8)", x.count(8), 108);
    }

    private static void carryOutIsOneChange() {
        sentence(21, "This is a change (one, with all of them; also if none is carried out).");
        RelaxedSteps x = with(of(60, 60, 0, 0));
        x.limit(1, 7);
        x.step(3);
        change(x, () -> carried(x, "i1:2,3,4;-0;l0=9;r1;s9;x"), 6);
        change(x, () -> carried(x, "s0;x"), 0);
        change(x, () -> carried(x, "x;s0"), 1);
        due("undo(), the change before", x.undo(), 2);
        due("count(8)", x.count(8), 0);
    }

    private static void carryOutOfAFullPad() {
        sentence(21, "Returns how many orders were carried out. (Up to 40 fit on the pad.)");
        RelaxedSteps x = new RelaxedSteps();
        due("40", carried(x, "x;".repeat(39) + "r1"), 40);
        due("count(1)", x.count(1), FALLING);
        due("one", carried(x, "x"), 1);
    }

    // ---- promise 22

    private static void undoOfEach() {
        sentence(22, "everything except the pad, the slots and the history is as it was before it.");
        RelaxedSteps x = with(of(60, 30, 20, 10), of(50, 30, 20, 10), of(9, 0, 0, 0));
        x.multiplier(0, 70);
        x.rule(FALLING, 70);
        x.step(5);
        x.repair();
        x.save(0);
        x.limit(1, 49);
        x.step(2);
        x.repair();
        x.rule(TARGET, 7);
        IntSupplier[] changes = {() -> x.item(1, 2, 3, 4), () -> x.drop(0), () -> x.limit(0, 20), () -> x.rule(FIXED, 5),
            () -> x.multiplier(2, 999999), () -> x.step(99), () -> x.repair(), () -> x.restore(0),
            () -> carried(x, "-1;i9:9,9,9;s9;x")};
        for (int k = 0; k < changes.length; k++) {
            String before = Check.picture(x);
            Check.holds("change " + k + " is one", changes[k].getAsInt() >= 0);
            due("undo() of change " + k, x.undo(), 5);
            Check.holds("undo() of change " + k + " brings all back", Check.picture(x).equals(before));
            // so the history is full again
            x.repair();
        }
    }

    private static void undoLeavesPadAndSlots() {
        sentence(22, "everything except the pad, the slots and the history");
        RelaxedSteps x = with(of(60, 30, 20, 10));
        Check.put(x, "s1;");
        x.limit(0, 20);
        Check.put(x, "x");
        x.save(0);
        due("undo()", x.undo(), 1);
        due("count(9), the pad", x.count(9), 4);
        due("undo()", x.undo(), 0);
        due("restore(0), the slot", x.restore(0), 1);
        due("ofDimension(0, 0)", x.ofDimension(0, 0), 20);
        due("fault(), the pad", x.fault(), NONE);
        due("carryOut()", x.carryOut(), 2);
        due("undo()", x.undo(), 1);
        due("count(9), the pad isn't filled again", x.count(9), 0);
    }

    private static void undoAtMost6() {
        sentence(22, "A history of at most 6 states is kept; when one more is recorded, the oldest one is dropped.");
        for (int changes = 5; changes <= 20; changes++) {
            RelaxedSteps x = new RelaxedSteps();
            for (int k = 1; k <= changes; k++) {
                x.multiplier(0, k);
            }
            int left = Math.min(6, changes);
            due("count(10) behind " + changes, x.count(10), left);
            for (int k = left - 1; k >= 0; k--) {
                due("undo() of " + changes, x.undo(), k);
            }
            due("ofDimension(0, 1) behind " + changes, x.ofDimension(0, 1), Math.max(0, changes - 6));
            due("undo() behind all", x.undo(), NOT_POSSIBLE);
        }
    }

    private static void undoAndOn() {
        sentence(22, "Undoes the latest change. (Changes behind it are recorded again.)");
        RelaxedSteps x = new RelaxedSteps();
        for (int k = 1; k <= 8; k++) {
            x.multiplier(0, k);
        }
        x.undo();
        x.undo();
        due("ofDimension(0, 1)", x.ofDimension(0, 1), 6);
        x.multiplier(0, 100);
        due("count(10)", x.count(10), 5);
        x.multiplier(0, 101);
        x.multiplier(0, 102);
        due("count(10)", x.count(10), 6);
        int[] due = {101, 100, 6, 5, 4, 3};
        for (int k = 0; k < due.length; k++) {
            due("undo()", x.undo(), 5 - k);
            due("ofDimension(0, 1)", x.ofDimension(0, 1), due[k]);
        }
        due("undo()", x.undo(), NOT_POSSIBLE);
        due("ofDimension(0, 1)", x.ofDimension(0, 1), 3);
    }

    private static void undoRecordsEachChange() {
        sentence(22, "each method that is a change, and returns no error, records the state before it (also if nothing is different then)");
        RelaxedSteps x = new RelaxedSteps();
        x.save(0);
        IntSupplier[] same = {() -> x.limit(0, 50), () -> x.rule(FIXED, 100), () -> x.multiplier(0, 0), () -> x.restore(0)};
        for (int k = 0; k < same.length; k++) {
            String before = Check.picture(x);
            same[k].getAsInt();
            Check.holds("nothing is different", Check.picture(x).equals(before));
            due("count(10) behind " + k, x.count(10), k + 1);
        }
        IntSupplier[] errors = {() -> x.item(-1, 0, 0, 0), () -> x.drop(0), () -> x.limit(3, 0), () -> x.limit(0, -1),
            () -> x.rule(3, 1), () -> x.multiplier(3, 0), () -> x.multiplier(0, -1), () -> x.step(0), () -> x.restore(1),
            () -> x.restore(2), () -> x.carryOut()};
        for (IntSupplier error : errors) {
            Check.holds("it's an error", error.getAsInt() < 0);
            due("count(10) behind an error", x.count(10), 4);
        }
        x.put('x');
        x.fault();
        x.wipe();
        x.save(1);
        x.best(0);
        x.worthOf(0, 1);
        x.repaired(0);
        x.boundThen();
        due("count(10), these are none", x.count(10), 4);
        due("undo()", x.undo(), 3);
    }

    private static void undoAnOrder() {
        sentence(22, "An order of a text records nothing by itself.");
        RelaxedSteps x = new RelaxedSteps();
        x.multiplier(0, 9);
        due("carryOut()", carried(x, "i1:2,3,4;i1:2,3,4;l0=9;r1;s9;x;-0"), 7);
        due("count(10)", x.count(10), 2);
        due("undo()", x.undo(), 1);
        due("count(0)", x.count(0), 0);
        due("ofDimension(0, 0)", x.ofDimension(0, 0), 50);
        due("ofDimension(0, 1)", x.ofDimension(0, 1), 9);
    }

    private static void undoBehindErrors() {
        sentence(22, "each method that is a change, and returns no error, records the state before it (an error drops no state)");
        RelaxedSteps x = new RelaxedSteps();
        for (int k = 1; k <= 6; k++) {
            x.multiplier(0, k);
        }
        x.item(-1, 0, 0, 0);
        x.drop(0);
        x.limit(3, 0);
        x.rule(3, 1);
        x.multiplier(0, -1);
        x.step(0);
        x.carryOut();
        x.restore(0);
        for (int k = 5; k >= 0; k--) {
            due("undo()", x.undo(), k);
            due("ofDimension(0, 1)", x.ofDimension(0, 1), k);
        }
    }

    private static void undoNotPossible() {
        sentence(22, "Returns how many changes can be undone then; NOT_POSSIBLE if there is none.");
        RelaxedSteps x = new RelaxedSteps();
        due("undo(), none", x.undo(), NOT_POSSIBLE);
        x.save(0);
        x.put('x');
        due("undo(), no change", x.undo(), NOT_POSSIBLE);
        x.repair();
        due("undo(), the only one", x.undo(), 0);
        due("undo(), none again", x.undo(), NOT_POSSIBLE);
    }

    // ---- promise 23

    private static void saveOverwrites() {
        sentence(23, "Saves everything except the pad, the history and the slots in a slot, and overwrites what was saved there.");
        RelaxedSteps x = with(of(60, 30, 20, 10));
        x.multiplier(0, 70);
        x.step(2);
        x.repair();
        due("save(1)", x.save(1), 1);
        x.item(50, 30, 20, 10);
        due("save(0)", x.save(0), 2);
        x.limit(2, 40);
        x.rule(TARGET, 7);
        x.step(3);
        x.repair();
        due("save(1) again", x.save(1), 2);
        String saved = Check.picture(x);
        x.put('x');
        x.drop(0);
        x.drop(0);
        due("restore(1)", x.restore(1), 2);
        Check.holds("it's what was saved last", Check.picture(x).equals(saved));
        due("count(9), the pad isn't in it", x.count(9), 1);
        due("count(10), the history isn't in it", x.count(10), 6);
        due("restore(0), the other slot", x.restore(0), 2);
        due("ofDimension(2, 0)", x.ofDimension(2, 0), 50);
        due("restore(1), the slots aren't in it", x.restore(1), 2);
        due("ofDimension(2, 0)", x.ofDimension(2, 0), 40);
    }

    private static void saveReturnsHowMany() {
        sentence(23, "Returns how many items there are");
        RelaxedSteps x = new RelaxedSteps();
        for (int items = 0; items <= 16; items++) {
            due("save, " + items, x.save(items % 2), items);
            x.item(1, 1, 1, 1);
        }
        due("count(10), no change", x.count(10), 6);
    }

    private static void saveNoSuchSlot() {
        sentence(23, "BAD_VALUE if there is no such slot. slot: 0 or 1");
        RelaxedSteps x = new RelaxedSteps();
        dueFor("save(?)", x::save, BAD_VALUE, -1, 2, MIN, MAX);
        due("restore(0), nothing saved", x.restore(0), NOT_POSSIBLE);
        due("restore(1), nothing saved", x.restore(1), NOT_POSSIBLE);
        due("save(0)", x.save(0), 0);
        due("save(1)", x.save(1), 0);
    }

    // ---- promise 24

    private static void restoreIsAChange() {
        sentence(24, "Restores what was saved last in a slot, which keeps it. This is a change.");
        RelaxedSteps x = with(of(60, 30, 20, 10), of(5, 6, 7, 8));
        x.step(2);
        x.repair();
        x.save(1);
        String saved = Check.picture(x);
        for (int times = 0; times < 3; times++) {
            x.drop(0);
            x.limit(0, 7);
            x.step(9);
            change(x, () -> x.restore(1), 2);
            due("restore(1)", x.restore(1), 2);
            Check.holds("all is as it was saved", Check.picture(x).equals(saved));
        }
    }

    private static void restoreReturnsHowMany() {
        sentence(24, "Returns how many items there are then");
        RelaxedSteps x = new RelaxedSteps();
        x.save(0);
        for (int k = 0; k < 16; k++) {
            x.item(1, 1, 1, 1);
        }
        x.save(1);
        due("restore(0), none", x.restore(0), 0);
        due("count(0)", x.count(0), 0);
        due("restore(1), 16", x.restore(1), 16);
        due("count(0)", x.count(0), 16);
    }

    private static void restoreNoSuchSlot() {
        sentence(24, "BAD_VALUE if there is no such slot. slot: 0 or 1");
        RelaxedSteps x = new RelaxedSteps();
        dueFor("restore(?), nothing saved", x::restore, BAD_VALUE, -1, 2, MIN, MAX);
        x.save(0);
        x.save(1);
        dueFor("restore(?), both saved", x::restore, BAD_VALUE, -1, 2, MIN, MAX);
    }

    private static void restoreNothingSaved() {
        sentence(24, "NOT_POSSIBLE if nothing was saved in it.");
        RelaxedSteps x = with(of(1, 1, 1, 1));
        due("restore(0)", x.restore(0), NOT_POSSIBLE);
        due("restore(1)", x.restore(1), NOT_POSSIBLE);
        x.save(1);
        due("restore(0), only the other", x.restore(0), NOT_POSSIBLE);
        due("restore(1)", x.restore(1), 1);
        x.undo();
        x.undo();
        due("restore(1), undo leaves it", x.restore(1), 1);
        due("restore(0)", x.restore(0), NOT_POSSIBLE);
        due("carryOut() of the empty pad", x.carryOut(), BAD_TEXT);
    }
}
