/** A part for each promise: ordinary inputs, the edges that the document names, wrong inputs. Answers worked out by hand. */
public final class PromisesTest {
    private static final int NO_SUCH = -1, BAD_VALUE = -2, BAD_TEXT = -3, TOO_MANY = -4, NOT_POSSIBLE = -5, NONE = -6;
    private static final int FIXED = 0, FALLING = 1, TARGET = 2;
    private static final int MIN = Integer.MIN_VALUE, MAX = Integer.MAX_VALUE;

    public static void main(String[] args) {
        promise1();
        promise2();
        promise3();
        promise4();
        promise5();
        promise6();
        promise7();
        promise7Target();
        promise7Relaxed();
        promise8();
        promise9();
        promise10();
        promise11();
        promise12();
        promise13();
        promise14();
        promise15();
        promise16();
        promise17();
        promise18();
        promise19();
        promise20();
        promise21();
        promise21Orders();
        promise22();
        promise23();
        promise24();
        Check.finish();
    }

    private static void due(String call, long got, long want) {
        Check.due(call, got, want);
    }

    private static void same(String what, String got, String want) {
        Check.holds(what + ": " + got + " is " + want, got.equals(want));
    }

    private static void promise1() {
        Check.part("promise 1");
        RelaxedSteps x = new RelaxedSteps();
        int[] due = {0, FIXED, 100, 0, NONE, NONE, 0, 0, 0, 0, 0};
        for (int what = 0; what < due.length; what++) {
            due("count(" + what + ")", x.count(what), due[what]);
        }
        int[] dueOfDimension = {50, 0, 10000 - 50, NONE, NONE};
        for (int dimension = 0; dimension < 3; dimension++) {
            for (int what = 0; what < dueOfDimension.length; what++) {
                due("ofDimension(" + dimension + ", " + what + ")", x.ofDimension(dimension, what), dueOfDimension[what]);
            }
        }
        for (int what = 0; what < 3; what++) {
            due("bound(" + what + ")", x.bound(what), 0);
        }
        due("ofItem(0, 0)", x.ofItem(0, 0), NO_SUCH);
        due("bundle(0)", x.bundle(0), NO_SUCH);
        due("boundThen()", x.boundThen(), 0);
        due("fault()", x.fault(), 0);
        due("undo()", x.undo(), NOT_POSSIBLE);
        due("restore(0)", x.restore(0), NOT_POSSIBLE);
        due("restore(1)", x.restore(1), NOT_POSSIBLE);
        x.item(1, 2, 3, 4);
        due("count(0) of another object", new RelaxedSteps().count(0), 0);
    }

    private static void promise2() {
        Check.part("promise 2");
        RelaxedSteps x = new RelaxedSteps();
        int[][] wrong = {{-1, 0, 0, 0}, {1000, 0, 0, 0}, {0, -1, 0, 0}, {0, 100, 0, 0}, {0, 0, -1, 0}, {0, 0, 100, 0},
            {0, 0, 0, -1}, {0, 0, 0, 100}, {MIN, 0, 0, 0}, {MAX, 0, 0, 0}, {0, MIN, MAX, 0}, {0, 0, 0, MAX}};
        for (int[] w : wrong) {
            due("item out of range", x.item(w[0], w[1], w[2], w[3]), BAD_VALUE);
        }
        due("count(0)", x.count(0), 0);
        due("count(10)", x.count(10), 0);
        due("item(999, 99, 98, 97)", x.item(999, 99, 98, 97), 0);
        due("item(0, 0, 0, 0)", x.item(0, 0, 0, 0), 1);
        int[] due = {999, 99, 98, 97};
        for (int what = 0; what < 4; what++) {
            due("ofItem(0, what)", x.ofItem(0, what), due[what]);
            due("ofItem(1, what)", x.ofItem(1, what), 0);
        }
        for (int number = 2; number < 16; number++) {
            due("item", x.item(number, 1, 1, 1), number);
        }
        due("item, the 17th", x.item(1, 1, 1, 1), TOO_MANY);
        due("item, the 17th, and wrong", x.item(1000, 1, 1, 1), BAD_VALUE);
        due("count(0)", x.count(0), 16);
        promise2Forgets();
    }

    private static void promise2Forgets() {
        RelaxedSteps x = new RelaxedSteps();
        x.multiplier(0, 10);
        x.step(1);
        x.multiplier(0, 30);
        x.repair();
        // the multiplier went down to 0 by the step, the best bound with it
        due("bound(1)", x.bound(1), 0);
        due("count(6)", x.count(6), 1);
        due("item(0, 0, 0, 0)", x.item(0, 0, 0, 0), 0);
        due("bound(1)", x.bound(1), 30 * 50);
        due("count(4)", x.count(4), NONE);
        due("count(5)", x.count(5), NONE);
        due("count(6)", x.count(6), 0);
        due("count(7)", x.count(7), 0);
        due("count(8)", x.count(8), 1);
        due("ofDimension(0, 1)", x.ofDimension(0, 1), 30);
    }

    private static void promise3() {
        Check.part("promise 3");
        RelaxedSteps x = new RelaxedSteps();
        due("drop(0)", x.drop(0), NO_SUCH);
        for (int k = 0; k < 16; k++) {
            x.item(100 + k, k, 2 * k, 3 * k);
        }
        x.step(1);
        x.repair();
        for (int wrong : new int[] {-1, 16, MIN, MAX}) {
            due("drop(" + wrong + ")", x.drop(wrong), NO_SUCH);
        }
        due("count(6)", x.count(6), 1);
        due("drop(3)", x.drop(3), 15);
        due("ofItem(2, 0)", x.ofItem(2, 0), 102);
        due("ofItem(3, 0)", x.ofItem(3, 0), 104);
        due("ofItem(3, 1)", x.ofItem(3, 1), 4);
        due("ofItem(3, 2)", x.ofItem(3, 2), 8);
        due("ofItem(3, 3)", x.ofItem(3, 3), 12);
        due("ofItem(14, 0)", x.ofItem(14, 0), 115);
        due("ofItem(14, 3)", x.ofItem(14, 3), 45);
        due("ofItem(15, 0)", x.ofItem(15, 0), NO_SUCH);
        due("count(4)", x.count(4), NONE);
        due("count(6)", x.count(6), 0);
        due("count(7)", x.count(7), 0);
        due("count(8)", x.count(8), 1);
        due("bound(1) is bound(0)", x.bound(1), x.bound(0));
        due("drop(14)", x.drop(14), 14);
        due("ofItem(14, 0)", x.ofItem(14, 0), NO_SUCH);
        for (int left = 13; left >= 0; left--) {
            due("drop(0)", x.drop(0), left);
        }
        due("drop(0)", x.drop(0), NO_SUCH);
        due("item(7, 6, 5, 4)", x.item(7, 6, 5, 4), 0);
        due("ofItem(0, 3)", x.ofItem(0, 3), 4);
    }

    private static void promise4() {
        Check.part("promise 4");
        RelaxedSteps x = new RelaxedSteps();
        for (int wrong : new int[] {-1, 3, MIN, MAX}) {
            due("limit(" + wrong + ", 1000)", x.limit(wrong, 1000), NO_SUCH);
        }
        for (int wrong : new int[] {-1, 1000, MIN, MAX}) {
            due("limit(2, " + wrong + ")", x.limit(2, wrong), BAD_VALUE);
        }
        due("count(10)", x.count(10), 0);
        due("limit(2, 0)", x.limit(2, 0), 50);
        due("limit(2, 999)", x.limit(2, 999), 0);
        due("limit(2, 20)", x.limit(2, 20), 999);
        due("limit(0, 5)", x.limit(0, 5), 50);
        due("ofDimension(0, 0)", x.ofDimension(0, 0), 5);
        due("ofDimension(1, 0)", x.ofDimension(1, 0), 50);
        due("ofDimension(2, 0)", x.ofDimension(2, 0), 20);
        x.multiplier(2, 10);
        due("step(2)", x.step(2), 0);
        x.multiplier(2, 7);
        x.repair();
        due("bound(1)", x.bound(1), 0);
        due("limit(2, 20) as it is", x.limit(2, 20), 20);
        due("bound(1)", x.bound(1), 7 * 20);
        due("count(4)", x.count(4), NONE);
        due("count(7)", x.count(7), 0);
        due("count(8)", x.count(8), 2);
        due("the bundle stays, count(6)", x.count(6), 1);
    }

    private static void promise5() {
        Check.part("promise 5");
        RelaxedSteps x = new RelaxedSteps();
        int[][] wrong = {{-1, 1}, {3, 1}, {MIN, 1}, {MAX, 1}, {0, 0}, {0, -1}, {0, 10000}, {0, MIN}, {0, MAX}};
        for (int[] w : wrong) {
            due("rule(" + w[0] + ", " + w[1] + ")", x.rule(w[0], w[1]), BAD_VALUE);
        }
        due("count(10)", x.count(10), 0);
        due("rule(2, 1)", x.rule(TARGET, 1), FIXED);
        due("rule(1, 9999)", x.rule(FALLING, 9999), TARGET);
        due("count(1)", x.count(1), FALLING);
        due("count(2)", x.count(2), 9999);
        x.item(1, 99, 0, 0);
        x.step(3);
        x.repair();
        due("rule(1, 9999)", x.rule(FALLING, 9999), FALLING);
        due("nothing is forgotten, count(7)", x.count(7), 3);
        due("nothing is forgotten, count(5)", x.count(5), 0);
    }

    private static void promise6() {
        Check.part("promise 6");
        RelaxedSteps x = new RelaxedSteps();
        for (int wrong : new int[] {-1, 3, MIN, MAX}) {
            due("multiplier(" + wrong + ", -1)", x.multiplier(wrong, -1), NO_SUCH);
        }
        for (int wrong : new int[] {-1, 1000000, MIN, MAX}) {
            due("multiplier(1, " + wrong + ")", x.multiplier(1, wrong), BAD_VALUE);
        }
        due("count(10)", x.count(10), 0);
        due("multiplier(1, 999999)", x.multiplier(1, 999999), 0);
        due("multiplier(1, 0)", x.multiplier(1, 0), 999999);
        x.item(100, 60, 0, 0);
        due("bound(1)", x.bound(1), 10000);
        due("multiplier(0, 10)", x.multiplier(0, 10), 0);
        // 10000 - 600 for the item, 10 * 50 for the limit
        due("bound(1)", x.bound(1), 9900);
        due("multiplier(0, 200)", x.multiplier(0, 200), 10);
        due("bound(0)", x.bound(0), 10000);
        due("bound(1)", x.bound(1), 9900);
        x.repair();
        due("multiplier(0, 3)", x.multiplier(0, 3), 200);
        due("a solution stays", x.count(5), 0);
        due("ofDimension(0, 1)", x.ofDimension(0, 1), 3);
    }

    private static void promise7() {
        Check.part("promise 7");
        RelaxedSteps x = new RelaxedSteps();
        for (int wrong : new int[] {-1, 0, 100, MIN, MAX}) {
            due("step(" + wrong + ")", x.step(wrong), BAD_VALUE);
        }
        due("count(10)", x.count(10), 0);
        x.item(100, 60, 40, 50);
        x.rule(FIXED, 7);
        x.multiplier(1, 75);
        // 10000 - 3000 + 3750; the slopes are 10, -10 and 0
        due("bound(0)", x.bound(0), 10750);
        due("bound(1)", x.bound(1), 10000);
        due("step(1)", x.step(1), 1);
        due("ofDimension(0, 1)", x.ofDimension(0, 1), 70);
        due("ofDimension(1, 1)", x.ofDimension(1, 1), 5);
        due("ofDimension(2, 1)", x.ofDimension(2, 1), 0);
        // 10000 - 4200 - 200 + 3500 + 250, then 10000 - 8400 + 7000: both are better
        due("bound(0)", x.bound(0), 9350);
        due("step(1)", x.step(1), 1);
        due("ofDimension(1, 1)", x.ofDimension(1, 1), 0);
        due("bound(0)", x.bound(0), 8600);
        // the third makes the price -2600: 0 + 210 * 50, which is no better; then it turns: 0, 70, 140, 210
        due("step(1)", x.step(1), 0);
        due("bound(0)", x.bound(0), 10500);
        due("count(7)", x.count(7), 3);
        due("count(8)", x.count(8), 3);
        due("step(99)", x.step(99), 0);
        due("count(8)", x.count(8), 102);
        promise7Most();
        promise7Falling();
    }

    private static void promise7Most() {
        RelaxedSteps x = new RelaxedSteps();
        x.item(0, 0, 0, 0);
        x.item(999, 99, 0, 0);
        x.limit(0, 0);
        x.rule(FIXED, 9999);
        // 99 * 9999 is 989901; the item isn't worth that
        due("step(1)", x.step(1), 1);
        due("ofDimension(0, 1)", x.ofDimension(0, 1), 989901);
        x.multiplier(0, 500);
        due("step(1)", x.step(1), 0);
        due("ofDimension(0, 1)", x.ofDimension(0, 1), 990401);
        x.item(999, 99, 0, 0);
        x.multiplier(0, 1009);
        x.step(1);
        due("999999 at most", x.ofDimension(0, 1), 999999);
    }

    private static void promise7Falling() {
        RelaxedSteps x = new RelaxedSteps();
        x.item(999, 51, 0, 0);
        x.rule(FALLING, 100);
        int[] due = {100, 150, 183, 208, 228, 244};
        for (int k = 0; k < due.length; k++) {
            x.step(1);
            due("multiplier after " + (k + 1), x.ofDimension(0, 1), due[k]);
        }
        x.limit(1, 50);
        x.step(1);
        due("after forgetting STEP counts whole again", x.ofDimension(0, 1), 344);
        x.rule(FALLING, 3);
        x.step(1);
        due("3 / 2", x.ofDimension(0, 1), 345);
        x.step(1);
        due("3 / 3", x.ofDimension(0, 1), 346);
        x.step(1);
        due("3 / 4 is 1 at least", x.ofDimension(0, 1), 347);
    }

    private static void promise7Target() {
        Check.part("promise 7, TARGET");
        RelaxedSteps x = new RelaxedSteps();
        x.item(100, 60, 40, 50);
        x.rule(TARGET, 1);
        // slopes 10, -10, 0; (10000 - 0) / 200
        due("step(1)", x.step(1), 0);
        due("ofDimension(0, 1)", x.ofDimension(0, 1), 500);
        due("bound(0)", x.bound(0), 25000);
        x = new RelaxedSteps();
        x.item(100, 60, 0, 0);
        x.item(30, 0, 0, 0);
        x.limit(1, 0);
        x.limit(2, 0);
        x.rule(TARGET, 1);
        due("repair()", x.repair(), 30);
        // slope 10; (13000 - 3000) / 100
        x.step(1);
        due("ofDimension(0, 1)", x.ofDimension(0, 1), 1000);
        due("bound(0)", x.bound(0), 3000 + 50000);
        // slope -50; 50000 / 2500
        x.step(1);
        due("ofDimension(0, 1)", x.ofDimension(0, 1), 0);
        x.multiplier(0, 101);
        // price 3940: slope 10; (3940 + 3000 + 5050 - 3000) / 100 is 89.9
        x.step(1);
        due("rounded down", x.ofDimension(0, 1), 101 + 890);
        x = new RelaxedSteps();
        x.item(1, 99, 99, 99);
        x.rule(TARGET, 9999);
        // 100 / (3 * 49 * 49) is 0: 1 at least
        x.step(1);
        due("1 at least", x.ofDimension(2, 1), 49);
        x = new RelaxedSteps();
        x.item(1, 51, 50, 50);
        x.rule(TARGET, 9999);
        x.step(1);
        due("100 / 1", x.ofDimension(0, 1), 100);
        x = new RelaxedSteps();
        x.item(999, 50, 50, 50);
        x.rule(TARGET, 9999);
        x.multiplier(0, 5);
        due("no slope", x.step(1), 0);
        due("no slope", x.ofDimension(0, 1), 5);
        due("no slope", x.count(7), 1);
    }

    private static void promise7Relaxed() {
        Check.part("promise 7, relaxed set");
        RelaxedSteps x = new RelaxedSteps();
        for (int k = 0; k < 4; k++) {
            x.item(1 << k, 0, k == 0 ? 1 : 0, 0);
        }
        due("count(3)", x.count(3), 15);
        x.multiplier(1, 100);
        due("a price of 0 is not above 0", x.count(3), 14);
        x.multiplier(1, 99);
        due("a price of 1 is above 0", x.count(3), 15);
    }

    private static void promise8() {
        Check.part("promise 8");
        RelaxedSteps x = new RelaxedSteps();
        x.item(10, 30, 0, 0);
        x.item(10, 30, 0, 0);
        x.item(9, 30, 0, 0);
        // all three are relaxed; 2 goes first, then the lower one of the like 0 and 1; then nothing else fits
        due("repair()", x.repair(), 10);
        due("count(4)", x.count(4), 2);
        due("count(5)", x.count(5), 10);
        x.multiplier(0, 34);
        // prices -20, -20, -120: the relaxed set is empty; 0 is put in
        due("count(3)", x.count(3), 0);
        due("repair()", x.repair(), 10);
        due("the first of several stays", x.count(4), 2);
        x.multiplier(0, 0);
        x.limit(0, 60);
        due("count(4)", x.count(4), NONE);
        due("repair()", x.repair(), 20);
        due("count(4)", x.count(4), 3);
        due("count(10)", x.count(10), 6);
        promise8Less();
    }

    private static void promise8Less() {
        RelaxedSteps x = new RelaxedSteps();
        x.item(90, 40, 0, 0);
        x.item(20, 20, 0, 0);
        x.multiplier(0, 300);
        due("repair()", x.repair(), 90);
        x.multiplier(0, 0);
        due("repair()", x.repair(), 90);
        due("count(4)", x.count(4), 1);
        x = new RelaxedSteps();
        x.item(0, 1, 0, 0);
        x.item(5, 50, 0, 0);
        x.multiplier(0, 90);
        due("a lesser one", x.repair(), 0);
        due("count(4)", x.count(4), 1);
        x.multiplier(0, 0);
        due("a better one", x.repair(), 5);
        due("count(4)", x.count(4), 2);
        x.multiplier(0, 90);
        due("a lesser one again", x.repair(), 0);
        due("count(4)", x.count(4), 2);
        due("count(5)", x.count(5), 5);
    }

    private static void promise9() {
        Check.part("promise 9");
        RelaxedSteps x = new RelaxedSteps();
        x.item(60, 20, 5, 1);
        x.item(40, 40, 6, 2);
        x.multiplier(0, 100);
        x.multiplier(1, 10);
        x.multiplier(2, 1);
        int[] due = {60, 20, 5, 1, 1000000000 + 6000 - 2000 - 50 - 1, 1, 0};
        int[] dueOther = {40, 40, 6, 2, 1000000000 + 4000 - 4000 - 60 - 2, 0, 0};
        for (int what = 0; what <= 6; what++) {
            due("ofItem(0, " + what + ")", x.ofItem(0, what), due[what]);
            due("ofItem(1, " + what + ")", x.ofItem(1, what), dueOther[what]);
        }
        x.repair();
        due("ofItem(0, 6)", x.ofItem(0, 6), 1);
        due("ofItem(1, 6)", x.ofItem(1, 6), 0);
        for (int wrong : new int[] {-1, 2, 16, MIN, MAX}) {
            due("ofItem(" + wrong + ", -1)", x.ofItem(wrong, -1), NO_SUCH);
        }
        for (int wrong : new int[] {-1, 7, MIN, MAX}) {
            due("ofItem(1, " + wrong + ")", x.ofItem(1, wrong), BAD_VALUE);
        }
    }

    private static void promise10() {
        Check.part("promise 10");
        RelaxedSteps x = new RelaxedSteps();
        x.item(60, 20, 5, 0);
        x.item(40, 30, 45, 99);
        x.multiplier(1, 7);
        due("ofDimension(1, 0)", x.ofDimension(1, 0), 50);
        due("ofDimension(1, 1)", x.ofDimension(1, 1), 7);
        due("ofDimension(0, 2)", x.ofDimension(0, 2), 10000);
        due("ofDimension(2, 2)", x.ofDimension(2, 2), 10049);
        due("ofDimension(0, 3)", x.ofDimension(0, 3), NONE);
        due("ofDimension(0, 4)", x.ofDimension(0, 4), NONE);
        x.repair();
        due("ofDimension(0, 3)", x.ofDimension(0, 3), 20);
        due("ofDimension(0, 4)", x.ofDimension(0, 4), 0);
        x.limit(2, 99);
        x.repair();
        due("ofDimension(0, 3)", x.ofDimension(0, 3), 50);
        due("ofDimension(0, 4)", x.ofDimension(0, 4), 1);
        due("ofDimension(2, 3)", x.ofDimension(2, 3), 99);
        due("ofDimension(2, 4)", x.ofDimension(2, 4), 1);
        x.limit(2, 100);
        x.repair();
        due("ofDimension(2, 4)", x.ofDimension(2, 4), 0);
        for (int wrong : new int[] {-1, 3, MIN, MAX}) {
            due("ofDimension(" + wrong + ", 5)", x.ofDimension(wrong, 5), NO_SUCH);
        }
        for (int wrong : new int[] {-1, 5, MIN, MAX}) {
            due("ofDimension(2, " + wrong + ")", x.ofDimension(2, wrong), BAD_VALUE);
        }
    }

    private static void promise11() {
        Check.part("promise 11");
        RelaxedSteps x = new RelaxedSteps();
        // item k is relaxed as long as the multiplier is below 100 * k
        for (int k = 0; k < 11; k++) {
            x.item(k, 1, 0, 0);
        }
        for (int k = 0; k < 9; k++) {
            x.multiplier(0, 100 * k);
            x.step(1);
        }
        // the sets of 0 to 8, of which the first one went
        due("count(6)", x.count(6), 8);
        for (int place = 0; place < 8; place++) {
            due("bundle(" + place + ")", x.bundle(place), 2047 & -(2 << (place + 1)));
        }
        x.multiplier(0, 300);
        x.step(1);
        due("count(6)", x.count(6), 8);
        due("bundle(0)", x.bundle(0), 2047 & -4);
        due("bundle(1)", x.bundle(1), 2047 & -8);
        due("what was behind moved up", x.bundle(2), 2047 & -32);
        due("the like one is last", x.bundle(7), 2047 & -16);
        for (int wrong : new int[] {-1, 8, MIN, MAX}) {
            due("bundle(" + wrong + ")", x.bundle(wrong), NO_SUCH);
        }
        x.item(0, 0, 0, 0);
        due("bundle(0)", x.bundle(0), NO_SUCH);
        x.step(1);
        due("bundle(1)", x.bundle(1), NO_SUCH);
        x.drop(11);
        due("bundle(0)", x.bundle(0), NO_SUCH);
    }

    private static void promise12() {
        Check.part("promise 12");
        RelaxedSteps x = new RelaxedSteps();
        x.item(60, 20, 0, 0);
        x.item(40, 60, 0, 0);
        x.rule(FALLING, 12);
        x.step(2);
        x.limit(2, 9);
        x.step(3);
        x.repair();
        Check.put(x, "i1:2,3,4;x");
        // multipliers: 360, 60; 420, 120, 0; relaxed ahead of each: both, none; both, none, the first one
        int[] due = {2, FALLING, 12, 3, 1, 60, 3, 3, 5, 10, 6};
        for (int what = 0; what < due.length; what++) {
            due("count(" + what + ")", x.count(what), due[what]);
        }
        for (int wrong : new int[] {-1, 11, MIN, MAX}) {
            due("count(" + wrong + ")", x.count(wrong), BAD_VALUE);
        }
    }

    private static void promise13() {
        Check.part("promise 13");
        RelaxedSteps x = new RelaxedSteps();
        x.item(60, 20, 5, 0);
        x.item(40, 40, 0, 0);
        x.multiplier(0, 100);
        x.multiplier(1, 20);
        // prices 3900 and 0; 5000 and 1000 for the limits
        due("bound(0)", x.bound(0), 9900);
        // without the second multiplier: 4000, 0 and 5000
        due("bound(1)", x.bound(1), 9000);
        due("bound(2)", x.bound(2), 9000);
        x.repair();
        due("bound(2)", x.bound(2), 3000);
        for (int wrong : new int[] {-1, 3, MIN, MAX}) {
            due("bound(" + wrong + ")", x.bound(wrong), BAD_VALUE);
        }
        for (int dimension = 0; dimension < 3; dimension++) {
            x.multiplier(dimension, 999999);
            x.limit(dimension, 999);
        }
        due("the greatest bound", x.bound(0), 3L * 999 * 999999);
        due("the greatest bound", x.bound(1), 3L * 999 * 999999);
    }

    private static void promise14() {
        Check.part("promise 14");
        RelaxedSteps x = new RelaxedSteps();
        x.item(100, 60, 40, 50);
        for (int rule = FIXED; rule <= TARGET; rule++) {
            x.rule(rule, 40);
            x.multiplier(0, 3);
            for (int k = 0; k < 4; k++) {
                String before = Check.picture(x);
                long then = x.boundThen();
                same("boundThen() changes nothing", Check.picture(x), before);
                x.step(1);
                due("boundThen()", then, x.bound(0));
            }
        }
        x = new RelaxedSteps();
        x.item(100, 60, 40, 50);
        x.rule(FIXED, 7);
        due("boundThen()", x.boundThen(), 10000 - 70 * 60 + 70 * 50);
        x.rule(FALLING, 7);
        due("boundThen()", x.boundThen(), 9300);
        x.step(1);
        // 7 / 2 is 3: 70 + 30
        due("boundThen()", x.boundThen(), 10000 - 100 * 60 + 100 * 50);
        due("count(10)", x.count(10), 4);
    }

    private static void promise15() {
        Check.part("promise 15");
        RelaxedSteps x = new RelaxedSteps();
        due("best(0)", x.best(0), 0);
        due("best(1)", x.best(1), 0);
        // the dense one keeps the two others out
        x.item(60, 30, 0, 0);
        x.item(50, 25, 0, 0);
        x.item(50, 25, 0, 0);
        due("best(0)", x.best(0), 100);
        due("best(1)", x.best(1), 6);
        x.item(50, 25, 0, 0);
        due("best(1), the least of several", x.best(1), 6);
        x.item(0, 0, 0, 0);
        due("best(1), without what is worthless", x.best(1), 6);
        x.item(1, 0, 0, 50);
        due("best(0)", x.best(0), 101);
        due("best(1)", x.best(1), 38);
        x.limit(2, 49);
        due("best(0)", x.best(0), 100);
        x.drop(5);
        x.limit(0, 49);
        due("best(0), one above the limit", x.best(0), 60);
        due("best(1), one above the limit", x.best(1), 1);
        for (int wrong : new int[] {-1, 2, MIN, MAX}) {
            due("best(" + wrong + ")", x.best(wrong), BAD_VALUE);
        }
        x = new RelaxedSteps();
        for (int k = 0; k < 16; k++) {
            x.item(999, 99, 99, 99);
            x.limit(k % 3, 0);
        }
        due("best(0), nothing fits", x.best(0), 0);
        due("best(1), nothing fits", x.best(1), 0);
        for (int dimension = 0; dimension < 3; dimension++) {
            x.limit(dimension, 990);
        }
        due("best(0), ten of all", x.best(0), 9990);
        due("best(1), ten of all", x.best(1), 1023);
        due("count(4), nothing changes", x.count(4), NONE);
    }

    private static void promise16() {
        Check.part("promise 16");
        RelaxedSteps x = new RelaxedSteps();
        x.item(60, 30, 0, 0);
        x.item(50, 25, 0, 0);
        x.item(50, 25, 7, 0);
        due("worthOf(0, 4)", x.worthOf(0, 4), 0);
        due("worthOf(0, 5)", x.worthOf(0, 5), 10);
        due("worthOf(0, 29)", x.worthOf(0, 29), 10);
        due("worthOf(0, 30)", x.worthOf(0, 30), 60);
        due("worthOf(1, 99)", x.worthOf(1, 99), 0);
        x.limit(1, 6);
        due("worthOf(1, 1)", x.worthOf(1, 1), 40);
        for (int wrong : new int[] {-1, 3, MIN, MAX}) {
            due("worthOf(" + wrong + ", 0)", x.worthOf(wrong, 0), NO_SUCH);
        }
        for (int wrong : new int[] {-1, 0, 100, MIN, MAX}) {
            due("worthOf(2, " + wrong + ")", x.worthOf(2, wrong), BAD_VALUE);
        }
        due("ofDimension(0, 0), nothing changes", x.ofDimension(0, 0), 50);
        x = new RelaxedSteps();
        for (int k = 0; k < 16; k++) {
            x.item(10 + k, 0, 99, 0);
        }
        x.limit(1, 999);
        // ten of the 16 fit: 25 down to 16; the next is 15, also beyond the greatest limit
        due("worthOf(1, 89)", x.worthOf(1, 89), 0);
        due("worthOf(1, 90)", x.worthOf(1, 90), 15);
        due("worthOf(1, 99)", x.worthOf(1, 99), 15);
    }

    private static void promise17() {
        Check.part("promise 17");
        RelaxedSteps x = new RelaxedSteps();
        due("repaired(0)", x.repaired(0), 0);
        due("repaired(MAX)", x.repaired(MAX), 0);
        // worth for the size: 3, 2, 1 and 1, 5, without size
        x.item(90, 30, 0, 0);
        x.item(80, 20, 20, 0);
        x.item(20, 10, 5, 5);
        x.item(10, 5, 5, 0);
        x.item(100, 20, 0, 0);
        x.item(0, 0, 0, 0);
        // all use 85 of 50: 2 and 3 (of like ones the lower) aren't enough, then 1; then 1 (20), 2 (10), 3 are tried again
        due("repaired(31)", x.repaired(31), 1 + 16 + 32);
        due("repaired(0), in the order of the numbers", x.repaired(0), 1 + 2 + 32);
        due("repaired(2)", x.repaired(2), 1 + 2 + 32);
        due("repaired(16 + 4 + 2)", x.repaired(22), 22 + 32);
        // they use 55; of the like 2 and 3 the lower one goes
        due("repaired(16 + 8 + 4 + 2)", x.repaired(30), 16 + 8 + 2 + 32);
        due("others don't matter", x.repaired(31 + 64 + (1 << 30)), 49);
        due("nothing changes", x.count(4), NONE);
        for (int wrong : new int[] {-1, MIN}) {
            due("repaired(" + wrong + ")", x.repaired(wrong), BAD_VALUE);
        }
        promise17Again();
    }

    private static void promise17Again() {
        RelaxedSteps x = new RelaxedSteps();
        x.item(1, 10, 0, 0);
        x.item(50, 30, 20, 0);
        x.item(99, 40, 0, 0);
        // 0 is taken out, that isn't enough, 1 is; then 0 fits again
        due("what was taken out is tried, too", x.repaired(7), 5);
        x = new RelaxedSteps();
        x.item(10, 30, 0, 0);
        x.item(10, 30, 0, 40);
        due("the size in all dimensions counts", x.repaired(3), 1);
        x = new RelaxedSteps();
        x.item(5, 0, 0, 99);
        x.item(9, 60, 0, 0);
        x.limit(2, 99);
        // 5/99 goes first, though it doesn't use what is used too much; it's put in again
        due("taken out though it is no help", x.repaired(3), 1);
        x.item(0, 40, 0, 0);
        x.limit(0, 0);
        due("nothing that uses it fits", x.repaired(7), 1);
        x = new RelaxedSteps();
        x.item(0, 0, 0, 0);
        x.item(999, 0, 1, 0);
        x.limit(1, 0);
        due("also what is as small as can be", x.repaired(3), 1);
    }

    private static void promise18() {
        Check.part("promise 18");
        RelaxedSteps x = new RelaxedSteps();
        long[] wrong = {0, -1, 32, 127, 1 << 8 | 'a', 'a' << 8, 'a' << 16 | 'b', (long) 'a' << 56 | 'b', 1L << 63 | 'a', 1L << 63,
            'a' << 8 | 32, 31 << 8 | 'a', 255, 128, 0x6161616161616100L, 0x6161616161616120L, 0xFF61616161616161L,
            0x0100000000000061L, Long.MIN_VALUE, Long.MAX_VALUE};
        for (long w : wrong) {
            due("put(" + w + ")", x.put(w), BAD_VALUE);
        }
        due("count(9)", x.count(9), 0);
        due("put of !", x.put(33), 1);
        due("put of ~", x.put(126), 2);
        due("put of eight", x.put(Check.packed("abcdefgh")), 10);
        due("put of seven", x.put(Check.packed("abcdefg")), 17);
        due("count(9)", x.count(9), 17);
        due("put is no change", x.count(10), 0);
        x.wipe();
        for (int k = 1; k <= 9; k++) {
            due("put of eight", x.put(Check.packed("s1;s1;s1")), 8 * k);
        }
        due("put of seven", x.put(Check.packed(";s1;s1;")), 79);
        due("put of two", x.put(Check.packed("xx")), TOO_MANY);
        due("put of two, a wrong one", x.put('x' << 8 | 7), BAD_VALUE);
        due("put of one", x.put('x'), 80);
        due("put of one more", x.put('x'), TOO_MANY);
        due("count(9)", x.count(9), 80);
        x.wipe();
        Check.put(x, "r0");
        due("in the order of the text", x.fault(), NONE);
    }

    private static void promise19() {
        Check.part("promise 19");
        RelaxedSteps x = new RelaxedSteps();
        due("wipe()", x.wipe(), 0);
        Check.put(x, "zzzzzzzzzzz");
        due("wipe()", x.wipe(), 11);
        due("wipe()", x.wipe(), 0);
        due("count(9)", x.count(9), 0);
        due("count(10)", x.count(10), 0);
        Check.put(x, "x");
        due("fault()", x.fault(), NONE);
    }

    private static void faultDue(String text, int want) {
        RelaxedSteps x = new RelaxedSteps();
        Check.put(x, text);
        due("fault() of " + text, x.fault(), want);
        due("count(9) of " + text, x.count(9), text.length());
    }

    private static void promise20() {
        Check.part("promise 20");
        String[] good = {"x", "s0", "s999", "-0", "-10", "r0", "r1", "r2", "l0=0", "l2=999", "i0:0,0,0",
            "i999:999,999,999", "x;x;x", "i1:2,3,4;l1=5;r2;s7;x;-8", "s10;-100;x"};
        for (String text : good) {
            faultDue(text, NONE);
        }
        due("fault() of the empty text", new RelaxedSteps().fault(), 0);
        faultDue("y", 0);
        faultDue(";", 0);
        faultDue("X", 0);
        faultDue("xx", 1);
        faultDue("x,x", 1);
        faultDue("x;", 2);
        faultDue("x;;x", 2);
        faultDue("x;y", 2);
        faultDue("s", 1);
        faultDue("s;", 1);
        faultDue("s-1", 1);
        faultDue("s01", 2);
        faultDue("s00", 2);
        faultDue("s1000", 4);
        faultDue("s9999;x", 4);
        faultDue("s12x", 3);
        faultDue("-", 1);
        faultDue("--1", 1);
        faultDue("-1000", 4);
        faultDue("r", 1);
        faultDue("r3", 1);
        faultDue("r9", 1);
        faultDue("r00", 2);
        faultDue("r2;r", 4);
        faultDue("l", 1);
        faultDue("l3=1", 1);
        faultDue("l1", 2);
        faultDue("l11", 2);
        faultDue("l1=", 3);
        faultDue("l1:5", 2);
        faultDue("l1=05", 4);
        faultDue("l1=1000", 6);
        faultDue("i", 1);
        faultDue("i1", 2);
        faultDue("i1,", 2);
        faultDue("i1:", 3);
        faultDue("i1:2", 4);
        faultDue("i1:2:3", 4);
        faultDue("i1:2,3", 6);
        faultDue("i1:2,3;x", 6);
        faultDue("i1:2,3,", 7);
        faultDue("i1:2,3,4,", 8);
        faultDue("i01:2,3,4", 2);
        faultDue("i1:2,3,4567", 10);
        faultDue("i1:2,1000,4", 8);
        faultDue("i:", 1);
        faultDue("x~", 1);
        faultDue("s/", 1);
        faultDue("s:", 1);
    }

    private static int carried(RelaxedSteps x, String text) {
        Check.put(x, text);
        return x.carryOut();
    }

    private static void promise21() {
        Check.part("promise 21");
        RelaxedSteps x = new RelaxedSteps();
        due("carryOut() of the empty text", x.carryOut(), BAD_TEXT);
        due("carryOut() of a fault", carried(x, "x;y"), BAD_TEXT);
        due("the pad stays", x.count(9), 3);
        due("count(10)", x.count(10), 0);
        due("nothing was carried out", x.count(4), NONE);
        x.wipe();
        due("carryOut()", carried(x, "i60:20,5,1;l1=44;r1;s3;x;-0"), 6);
        due("count(9)", x.count(9), 0);
        due("count(10)", x.count(10), 1);
        due("count(0)", x.count(0), 0);
        due("count(1)", x.count(1), FALLING);
        due("count(2)", x.count(2), 100);
        due("count(8)", x.count(8), 3);
        due("ofDimension(1, 0)", x.ofDimension(1, 0), 44);
        due("undo()", x.undo(), 0);
        due("count(8)", x.count(8), 0);
        due("ofDimension(1, 0)", x.ofDimension(1, 0), 50);
        due("the first order returns an error", carried(x, "-0;x"), 0);
        due("that is a change, too", x.count(10), 1);
        due("count(9)", x.count(9), 0);
        due("count(4)", x.count(4), NONE);
        due("up to the error", carried(x, "x;i1:2,3,4;s100;i1:1,1,1"), 2);
        due("what was ahead of it stays", x.count(0), 1);
        due("count(10)", x.count(10), 2);
    }

    private static void promise21Orders() {
        RelaxedSteps x = new RelaxedSteps();
        due("i", carried(x, "i60:20,5,1"), 1);
        due("ofItem(0, 0)", x.ofItem(0, 0), 60);
        due("ofItem(0, 1)", x.ofItem(0, 1), 20);
        due("ofItem(0, 2)", x.ofItem(0, 2), 5);
        due("ofItem(0, 3)", x.ofItem(0, 3), 1);
        due("a size above 99", carried(x, "i1:100,0,0"), 0);
        due("s0", carried(x, "s0"), 0);
        due("s99", carried(x, "s99"), 1);
        due("count(8)", x.count(8), 99);
        due("l", carried(x, "l2=999;l0=0"), 2);
        due("ofDimension(2, 0)", x.ofDimension(2, 0), 999);
        due("ofDimension(0, 0)", x.ofDimension(0, 0), 0);
        x.rule(FIXED, 77);
        due("r", carried(x, "r2"), 1);
        due("count(1)", x.count(1), TARGET);
        due("STEP as it is", x.count(2), 77);
        due("x", carried(x, "x;x"), 2);
        due("count(5)", x.count(5), 0);
        due("-", carried(x, "-1;x"), 0);
        due("-", carried(x, "-0;-0"), 1);
        due("count(0)", x.count(0), 0);
        due("a full text", carried(x, "s1;".repeat(25) + "x;x;x"), 28);
        due("8 items", carried(x, "i0:0,0,0;".repeat(7) + "i0:0,0,0"), 8);
        due("8 items", carried(x, "i0:0,0,0;".repeat(7) + "i0:0,0,0"), 8);
        due("17 items", carried(x, "i0:0,0,0;x"), 0);
    }

    private static void promise22() {
        Check.part("promise 22");
        RelaxedSteps x = new RelaxedSteps();
        due("undo()", x.undo(), NOT_POSSIBLE);
        String[] before = new String[12];
        String afterAll = "";
        Runnable[] changes = {() -> x.item(60, 30, 20, 10), () -> x.limit(0, 20), () -> x.multiplier(1, 9),
            () -> x.rule(TARGET, 70), () -> x.step(2), () -> x.repair(), () -> carried(x, "x;i1:1,1,1;s0"),
            () -> x.restore(0), () -> x.drop(0), () -> x.limit(0, 20), () -> x.item(9, 9, 9, 9), () -> x.drop(0)};
        x.save(0);
        for (int k = 0; k < changes.length; k++) {
            before[k] = Check.picture(x);
            changes[k].run();
            if (k == 8) {
                // the item is gone with restore(): this is no change
                due("count(10)", x.count(10), 6);
                continue;
            }
            due("count(10)", x.count(10), Math.min(6, k + 1));
        }
        afterAll = Check.picture(x);
        x.wipe();
        Check.put(x, "keep");
        int[] undone = {11, 10, 9, 7, 6, 5};
        for (int k = 0; k < 6; k++) {
            due("undo()", x.undo(), 5 - k);
            same("undo of change " + undone[k], Check.picture(x), before[undone[k]]);
        }
        due("undo() once more", x.undo(), NOT_POSSIBLE);
        due("the pad stays", x.count(9), 4);
        x.restore(0);
        due("count(10)", x.count(10), 1);
        due("undo()", x.undo(), 0);
        promise22Small();
    }

    private static void promise22Small() {
        RelaxedSteps x = new RelaxedSteps();
        x.limit(0, 50);
        due("recorded though nothing is different", x.count(10), 1);
        x.limit(0, 1000);
        x.step(0);
        x.drop(0);
        x.item(-1, 0, 0, 0);
        x.rule(3, 3);
        x.multiplier(0, -1);
        x.restore(0);
        x.restore(2);
        x.carryOut();
        x.save(0);
        x.save(5);
        Check.put(x, "z");
        x.carryOut();
        x.wipe();
        x.fault();
        x.best(1);
        x.boundThen();
        x.worthOf(0, 1);
        x.repaired(0);
        due("errors and questions record nothing", x.count(10), 1);
        due("undo()", x.undo(), 0);
        for (int k = 0; k < 9; k++) {
            x.rule(FIXED, 1 + k);
        }
        for (int k = 0; k < 6; k++) {
            due("undo()", x.undo(), 5 - k);
            due("count(2)", x.count(2), 8 - k);
        }
        x.repair();
        due("undo()", x.undo(), 0);
        due("count(4)", x.count(4), NONE);
        x.item(1, 0, 0, 0);
        x.item(1, 0, 0, 0);
        x.step(1);
        x.drop(0);
        x.step(1);
        due("bundle(0)", x.bundle(0), 1);
        x.undo();
        due("bundle(0)", x.bundle(0), NO_SUCH);
        x.undo();
        due("bundle(0)", x.bundle(0), 3);
    }

    private static void promise23() {
        Check.part("promise 23");
        RelaxedSteps x = new RelaxedSteps();
        for (int wrong : new int[] {-1, 2, MIN, MAX}) {
            due("save(" + wrong + ")", x.save(wrong), BAD_VALUE);
        }
        due("save(0)", x.save(0), 0);
        x.item(1, 2, 3, 4);
        x.item(1, 2, 3, 4);
        due("save(1)", x.save(1), 2);
        due("count(10)", x.count(10), 2);
        x.drop(0);
        due("save(1) again", x.save(1), 1);
        due("undo()", x.undo(), 2);
        due("undo leaves the slots", x.restore(1), 1);
        due("restore(0)", x.restore(0), 0);
    }

    private static void promise24() {
        Check.part("promise 24");
        RelaxedSteps x = new RelaxedSteps();
        for (int wrong : new int[] {-1, 2, MIN, MAX}) {
            due("restore(" + wrong + ")", x.restore(wrong), BAD_VALUE);
        }
        due("restore(0)", x.restore(0), NOT_POSSIBLE);
        x.item(60, 30, 20, 10);
        x.item(50, 30, 20, 10);
        x.limit(0, 40);
        x.rule(FALLING, 70);
        x.multiplier(2, 5);
        x.step(4);
        x.repair();
        x.limit(1, 49);
        x.step(3);
        x.repair();
        x.save(1);
        String saved = Check.picture(x);
        due("restore(0)", x.restore(0), NOT_POSSIBLE);
        Check.put(x, "ab");
        for (int times = 0; times < 2; times++) {
            x.drop(0);
            x.limit(0, 7);
            x.multiplier(0, 999);
            x.rule(TARGET, 8);
            x.step(9);
            x.repair();
            String before = Check.picture(x);
            due("restore(1)", x.restore(1), 2);
            same("restored", Check.picture(x), saved);
            due("count(10)", x.count(10), 6);
            due("undo()", x.undo(), 5);
            same("undone", Check.picture(x), before);
        }
        due("the pad stays", x.count(9), 2);
    }
}
