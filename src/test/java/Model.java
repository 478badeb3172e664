import java.util.ArrayList;
import java.util.Arrays;
import java.util.List;
import java.util.regex.Matcher;
import java.util.regex.Pattern;

/** The document once more, in its plainest form and with the whole Java library: what ModelTest compares with. */
final class Model {
    private static final Pattern TEXT;

    static {
        String number = "(?:0|[1-9][0-9]{0,2})";
        String order = "(?:i" + number + ":" + number + "," + number + "," + number + "|l[0-2]=" + number + "|r[0-2]|s"
            + number + "|x|-" + number + ")";
        TEXT = Pattern.compile(order + "(?:;" + order + ")*");
    }

    /** A state is never changed once it is in the history or in a slot: changes are made to copies. */
    private static final class State {
        List<int[]> items = new ArrayList<>();
        int[] limits = {50, 50, 50};
        int[] multipliers = {0, 0, 0};
        List<Integer> bundle = new ArrayList<>();
        int rule = 0;
        int step = 100;
        int solution = -6;
        int since = 0;
        int all = 0;
        long bestBound = 0;

        State copy() {
            State s = new State();
            s.items = new ArrayList<>(items);
            s.limits = limits.clone();
            s.multipliers = multipliers.clone();
            s.bundle = new ArrayList<>(bundle);
            s.rule = rule;
            s.step = step;
            s.solution = solution;
            s.since = since;
            s.all = all;
            s.bestBound = bestBound;
            return s;
        }

        void forget(boolean anItem) {
            if (anItem) {
                bundle.clear();
            }
            solution = -6;
            since = 0;
            bestBound = bound();
        }

        int worth(int set) {
            int sum = 0;
            for (int i = 0; i < items.size(); i++) {
                sum += (set >> i) % 2 == 1 ? items.get(i)[0] : 0;
            }
            return sum;
        }

        int use(int set, int d) {
            int sum = 0;
            for (int i = 0; i < items.size(); i++) {
                sum += (set >> i) % 2 == 1 ? items.get(i)[1 + d] : 0;
            }
            return sum;
        }

        boolean fits(int set) {
            return use(set, 0) <= limits[0] && use(set, 1) <= limits[1] && use(set, 2) <= limits[2];
        }

        long price(int i) {
            int[] item = items.get(i);
            return 100L * item[0] - (long) multipliers[0] * item[1] - (long) multipliers[1] * item[2]
                - (long) multipliers[2] * item[3];
        }

        int relaxed() {
            int set = 0;
            for (int i = 0; i < items.size(); i++) {
                set += price(i) > 0 ? 1 << i : 0;
            }
            return set;
        }

        long bound() {
            long sum = 0;
            for (int i = 0; i < items.size(); i++) {
                sum += price(i) > 0 ? price(i) : 0;
            }
            for (int d = 0; d < 3; d++) {
                sum += (long) multipliers[d] * limits[d];
            }
            return sum;
        }

        long target() {
            return solution == -6 ? 0 : 100L * worth(solution);
        }

        boolean oneStep() {
            int relaxed = relaxed();
            bundle.remove((Integer) relaxed);
            bundle.add(relaxed);
            if (bundle.size() > 8) {
                bundle.remove(0);
            }
            since++;
            all++;
            long[] slopes = new long[3];
            long squares = 0;
            for (int d = 0; d < 3; d++) {
                slopes[d] = use(relaxed, d) - limits[d];
                squares += slopes[d] * slopes[d];
            }
            long length = step;
            if (rule == 1) {
                length = Math.max(1, step / since);
            } else if (rule == 2) {
                length = squares == 0 ? 0 : Math.max(1, (bound() - target()) / squares);
            }
            for (int d = 0; d < 3; d++) {
                multipliers[d] = (int) Math.min(999999, Math.max(0, multipliers[d] + length * slopes[d]));
            }
            boolean less = bound() < bestBound;
            bestBound = Math.min(bestBound, bound());
            return less;
        }

        int mended(int asked) {
            int set = asked % (1 << items.size());
            while (!fits(set)) {
                int worst = -1;
                for (int i = 0; i < items.size(); i++) {
                    if ((set >> i) % 2 == 1 && size(i) > 0
                        && (worst < 0 || items.get(i)[0] * size(worst) < items.get(worst)[0] * size(i))) {
                        worst = i;
                    }
                }
                set -= 1 << worst;
            }
            for (int i = 0; i < items.size(); i++) {
                if ((set >> i) % 2 == 0 && fits(set + (1 << i))) {
                    set += 1 << i;
                }
            }
            return set;
        }

        int size(int i) {
            int[] item = items.get(i);
            return item[1] + item[2] + item[3];
        }

        int bestSet() {
            int best = 0;
            for (int set = 0; set < 1 << items.size(); set++) {
                if (worth(set) > worth(best) && fits(set)) {
                    best = set;
                }
            }
            return best;
        }
    }

    private State now = new State();
    private final List<State> history = new ArrayList<>();
    private final State[] slots = new State[2];
    private String pad = "";
    private boolean inText = false;

    private void change() {
        if (inText) {
            return;
        }
        history.add(now.copy());
        if (history.size() > 6) {
            history.remove(0);
        }
    }

    int item(int worth, int a, int b, int c) {
        if (worth < 0 || worth > 999 || a < 0 || a > 99 || b < 0 || b > 99 || c < 0 || c > 99) {
            return -2;
        }
        if (now.items.size() == 16) {
            return -4;
        }
        change();
        now.items.add(new int[] {worth, a, b, c});
        now.forget(true);
        return now.items.size() - 1;
    }

    int drop(int item) {
        if (item < 0 || item >= now.items.size()) {
            return -1;
        }
        change();
        now.items.remove(item);
        now.forget(true);
        return now.items.size();
    }

    int limit(int dimension, int limit) {
        if (dimension < 0 || dimension > 2) {
            return -1;
        }
        if (limit < 0 || limit > 999) {
            return -2;
        }
        change();
        int before = now.limits[dimension];
        now.limits[dimension] = limit;
        now.forget(false);
        return before;
    }

    int rule(int rule, int step) {
        if (rule < 0 || rule > 2 || step < 1 || step > 9999) {
            return -2;
        }
        change();
        int before = now.rule;
        now.rule = rule;
        now.step = step;
        return before;
    }

    int multiplier(int dimension, int hundredths) {
        if (dimension < 0 || dimension > 2) {
            return -1;
        }
        if (hundredths < 0 || hundredths > 999999) {
            return -2;
        }
        change();
        int before = now.multipliers[dimension];
        now.multipliers[dimension] = hundredths;
        now.bestBound = Math.min(now.bestBound, now.bound());
        return before;
    }

    int step(int many) {
        if (many < 1 || many > 99) {
            return -2;
        }
        change();
        int less = 0;
        for (int k = 0; k < many; k++) {
            less += now.oneStep() ? 1 : 0;
        }
        return less;
    }

    int repair() {
        change();
        int set = now.mended(now.relaxed());
        if (now.solution == -6 || now.worth(set) > now.worth(now.solution)) {
            now.solution = set;
        }
        return now.worth(set);
    }

    int ofItem(int item, int what) {
        if (item < 0 || item >= now.items.size()) {
            return -1;
        }
        if (what < 0 || what > 6) {
            return -2;
        }
        if (what < 4) {
            return now.items.get(item)[what];
        }
        if (what == 4) {
            return (int) (now.price(item) + 1000000000);
        }
        int set = what == 5 ? now.relaxed() : now.solution == -6 ? 0 : now.solution;
        return (set >> item) % 2;
    }

    int ofDimension(int dimension, int what) {
        if (dimension < 0 || dimension > 2) {
            return -1;
        }
        if (what < 0 || what > 4) {
            return -2;
        }
        if (what == 0) {
            return now.limits[dimension];
        }
        if (what == 1) {
            return now.multipliers[dimension];
        }
        if (what == 2) {
            return now.use(now.relaxed(), dimension) - now.limits[dimension] + 10000;
        }
        if (now.solution == -6) {
            return -6;
        }
        int use = now.use(now.solution, dimension);
        return what == 3 ? use : use == now.limits[dimension] ? 1 : 0;
    }

    int bundle(int place) {
        return place < 0 || place >= now.bundle.size() ? -1 : now.bundle.get(place);
    }

    int count(int what) {
        int worth = now.solution == -6 ? -6 : now.worth(now.solution);
        int[] all = {now.items.size(), now.rule, now.step, now.relaxed(), now.solution, worth, now.bundle.size(),
            now.since, now.all, pad.length(), history.size()};
        return what < 0 || what >= all.length ? -2 : all[what];
    }

    long bound(int what) {
        long[] all = {now.bound(), now.bestBound, now.bestBound - now.target()};
        return what < 0 || what >= all.length ? -2 : all[what];
    }

    long boundThen() {
        State then = now.copy();
        then.oneStep();
        return then.bound();
    }

    int best(int what) {
        return what == 0 ? now.worth(now.bestSet()) : what == 1 ? now.bestSet() : -2;
    }

    int worthOf(int dimension, int units) {
        if (dimension < 0 || dimension > 2) {
            return -1;
        }
        if (units < 1 || units > 99) {
            return -2;
        }
        State then = now.copy();
        then.limits[dimension] += units;
        return then.worth(then.bestSet()) - now.worth(now.bestSet());
    }

    int repaired(int set) {
        return set < 0 ? -2 : now.mended(set);
    }

    int put(long characters) {
        StringBuilder more = new StringBuilder();
        long rest = characters;
        while (rest != 0) {
            more.append((char) (rest & 255));
            rest >>>= 8;
        }
        for (int k = 0; k < more.length(); k++) {
            if (more.charAt(k) < 33 || more.charAt(k) > 126) {
                return -2;
            }
        }
        if (more.length() == 0) {
            return -2;
        }
        if (pad.length() + more.length() > 80) {
            return -4;
        }
        pad += more.reverse();
        return pad.length();
    }

    int wipe() {
        int before = pad.length();
        pad = "";
        return before;
    }

    int fault() {
        for (int length = 1; length <= pad.length(); length++) {
            Matcher matcher = TEXT.matcher(pad.substring(0, length));
            if (!matcher.matches() && !matcher.hitEnd()) {
                return length - 1;
            }
        }
        return TEXT.matcher(pad).matches() ? -6 : pad.length();
    }

    int carryOut() {
        if (fault() != -6) {
            return -3;
        }
        change();
        inText = true;
        int done = 0;
        for (String order : pad.split(";")) {
            if (order(order) < 0) {
                break;
            }
            done++;
        }
        inText = false;
        pad = "";
        return done;
    }

    private int order(String order) {
        int[] n = order.length() == 1 ? new int[0]
            : Arrays.stream(order.substring(1).split("[:,=]")).mapToInt(Integer::parseInt).toArray();
        switch (order.charAt(0)) {
            case 'i':
                return item(n[0], n[1], n[2], n[3]);
            case 'l':
                return limit(n[0], n[1]);
            case 'r':
                return rule(n[0], now.step);
            case 's':
                return step(n[0]);
            case 'x':
                return repair();
            default:
                return drop(n[0]);
        }
    }

    int undo() {
        if (history.isEmpty()) {
            return -5;
        }
        now = history.remove(history.size() - 1);
        return history.size();
    }

    int save(int slot) {
        if (slot < 0 || slot > 1) {
            return -2;
        }
        slots[slot] = now.copy();
        return now.items.size();
    }

    int restore(int slot) {
        if (slot < 0 || slot > 1) {
            return -2;
        }
        if (slots[slot] == null) {
            return -5;
        }
        change();
        now = slots[slot].copy();
        return now.items.size();
    }
}
