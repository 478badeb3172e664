/** Runs of at most 512 calls, always the same ones, each call compared with the model's answer. */
public final class ModelTest {
    private static final int RUNS = 2500;
    // a turn has three calls, or up to eight if it fills the pad: they stay below 512 in a run
    private static final int TURNS = 150;
    private static final int[] EDGES = {-1, 0, 1, 2, 3, 15, 16, 98, 99, 100, 998, 999, 1000, 9999, 10000, 999999, 1000000,
        Integer.MAX_VALUE, Integer.MIN_VALUE};
    private static long seed = 1;

    private final RelaxedSteps real = new RelaxedSteps();
    private final Model model = new Model();
    private final int items;
    private final boolean tight;
    private int calls = 0;
    private final StringBuilder waiting = new StringBuilder();

    private ModelTest(int items, boolean tight) {
        this.items = items;
        this.tight = tight;
    }

    public static void main(String[] args) {
        for (int run = 0; run < RUNS && Check.wrong() == 0; run++) {
            Check.part("run " + run);
            // few items in most runs: the model tries every set
            int items = run % 20 == 0 ? 16 : run % 11;
            ModelTest test = new ModelTest(items, run % 3 == 0);
            for (int turn = 0; turn < TURNS && Check.wrong() == 0; turn++) {
                test.call(below(100));
                test.question(below(20));
                test.question(below(20));
            }
            Check.holds("a run has at most 512 calls: " + test.calls, test.calls <= 512);
        }
        Check.finish();
    }

    private static int below(int bound) {
        seed = seed * 6364136223846793005L + 1442695040888963407L;
        return (int) ((seed >>> 33) % bound);
    }

    /** A number in a range, now and then one at an edge or far beyond. */
    private static int in(int least, int most) {
        return below(25) == 0 ? EDGES[below(EDGES.length)] : least + below(most - least + 1);
    }

    private int size() {
        return below(3) == 0 ? 0 : tight ? in(20, 99) : in(0, 30);
    }

    private int worth() {
        return below(3) == 0 ? in(0, 999) : in(0, 9);
    }

    private int hundredths() {
        return below(8) == 0 ? in(0, 999999) : in(0, 3000);
    }

    private void due(String call, long got, long want) {
        calls++;
        Check.due("call " + calls + ", " + call, got, want);
    }

    private void call(int kind) {
        if (kind < 60) {
            change(kind);
        } else if (kind < 80) {
            text(kind);
        } else if (kind < 88) {
            due("undo()", real.undo(), model.undo());
        } else if (kind < 92) {
            int slot = in(0, 1);
            due("save(" + slot + ")", real.save(slot), model.save(slot));
        } else if (kind < 95) {
            int slot = in(0, 1);
            due("restore(" + slot + ")", real.restore(slot), model.restore(slot));
        } else {
            costlyQuestion();
        }
    }

    private void change(int kind) {
        if (kind < 14) {
            int worth = worth();
            int a = size();
            int b = size();
            int c = size();
            if (model.count(0) < items || below(4) == 0 && items == 16) {
                due("item(" + worth + ", " + a + ", " + b + ", " + c + ")", real.item(worth, a, b, c),
                    model.item(worth, a, b, c));
            }
        } else if (kind < 17) {
            int item = in(0, 16);
            due("drop(" + item + ")", real.drop(item), model.drop(item));
        } else if (kind < 21) {
            int dimension = in(0, 2);
            int limit = in(0, below(4) == 0 ? 999 : 99);
            due("limit(" + dimension + ", " + limit + ")", real.limit(dimension, limit), model.limit(dimension, limit));
        } else if (kind < 27) {
            int rule = in(0, 2);
            int step = in(1, below(4) == 0 ? 9999 : 20);
            due("rule(" + rule + ", " + step + ")", real.rule(rule, step), model.rule(rule, step));
        } else if (kind < 34) {
            int dimension = in(0, 2);
            int hundredths = hundredths();
            due("multiplier(" + dimension + ", " + hundredths + ")", real.multiplier(dimension, hundredths),
                model.multiplier(dimension, hundredths));
        } else if (kind < 48) {
            int many = in(1, below(5) == 0 ? 99 : 4);
            due("step(" + many + ")", real.step(many), model.step(many));
        } else {
            due("repair()", real.repair(), model.repair());
        }
    }

    private void text(int kind) {
        if (kind < 62) {
            due("wipe()", real.wipe(), model.wipe());
        } else if (kind < 65) {
            long characters = ((long) in(0, 127) << 40 ^ (long) in(0, 1 << 30) << 20 ^ in(0, 1 << 30)) >> below(40);
            due("put(" + characters + ")", real.put(characters), model.put(characters));
        } else if (kind < 76) {
            putOrders();
        } else {
            due("carryOut()", real.carryOut(), model.carryOut());
            waiting.setLength(0);
        }
    }

    private void putOrders() {
        waiting.append(model.count(9) == 0 ? "" : ";").append(order());
        if (below(3) == 0) {
            waiting.append(';').append(order());
        }
        if (below(6) == 0) {
            waiting.setCharAt(below(waiting.length()), (char) (33 + below(94)));
        }
        while (waiting.length() > 0) {
            String piece = waiting.substring(0, Math.min(waiting.length(), 1 + below(8)));
            long characters = Check.packed(piece);
            due("put of " + piece, real.put(characters), model.put(characters));
            waiting.delete(0, piece.length());
        }
    }

    private String order() {
        int most = below(6) == 0 ? 1100 : 99;
        switch (below(7)) {
            case 0:
                // more items than a run wants would make the model slow
                return model.count(0) >= items - 3 ? "x"
                    : "i" + below(999) + ":" + below(most / 2) + "," + below(40) + "," + below(40);
            case 1:
                return "l" + below(3) + "=" + below(most);
            case 2:
                return "r" + below(3);
            case 3:
            case 4:
                return "s" + below(most / 10);
            case 5:
                return "x";
            default:
                return "-" + below(20);
        }
    }

    private void costlyQuestion() {
        int dimension = in(0, 2);
        int units = in(1, 99);
        due("worthOf(" + dimension + ", " + units + ")", real.worthOf(dimension, units), model.worthOf(dimension, units));
        int what = in(0, 1);
        due("best(" + what + ")", real.best(what), model.best(what));
    }

    private void question(int kind) {
        if (kind < 6) {
            int what = in(0, 10);
            due("count(" + what + ")", real.count(what), model.count(what));
        } else if (kind < 9) {
            int item = in(0, Math.max(0, model.count(0) - 1));
            int what = in(0, 6);
            due("ofItem(" + item + ", " + what + ")", real.ofItem(item, what), model.ofItem(item, what));
        } else if (kind < 12) {
            int dimension = in(0, 2);
            int what = in(0, 4);
            due("ofDimension(" + dimension + ", " + what + ")", real.ofDimension(dimension, what),
                model.ofDimension(dimension, what));
        } else if (kind < 14) {
            int place = in(0, 7);
            due("bundle(" + place + ")", real.bundle(place), model.bundle(place));
        } else if (kind < 16) {
            int what = in(0, 2);
            due("bound(" + what + ")", real.bound(what), model.bound(what));
        } else if (kind < 17) {
            due("boundThen()", real.boundThen(), model.boundThen());
        } else if (kind < 19) {
            int set = in(0, 1 << 17);
            due("repaired(" + set + ")", real.repaired(set), model.repaired(set));
        } else {
            due("fault()", real.fault(), model.fault());
        }
    }
}
