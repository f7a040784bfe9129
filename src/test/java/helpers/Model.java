import java.util.ArrayList;
import java.util.List;
import java.util.Map;
import java.util.TreeMap;
import java.util.regex.Matcher;
import java.util.regex.Pattern;

/**
 * The document once more, written in another way (copies of the state, exceptions, regular expressions), against
 * which random runs of calls are compared.
 */
final class Model {
    static final int UNKNOWN = -1001;
    static final int OUT_OF_RANGE = -1002;
    static final int FULL = -1003;
    static final int DUPLICATE = -1004;
    static final int REFUSED = -1005;
    static final int NONE = -1006;

    private static final String KEY = "(0|[1-9][0-9]?)";
    private static final String VALUE = "(-?(?:0|[1-9][0-9]{0,2}))";
    private static final String ONE = "(?:i" + KEY + "=" + VALUE + "," + VALUE + "," + VALUE
            + "|u" + KEY + "\\.([0-2])=" + VALUE + "|d" + KEY + ")";
    private static final Pattern LIST = Pattern.compile(ONE + "(?:;" + ONE + ")*");
    private static final Pattern STATEMENT = Pattern.compile(ONE);

    /** A statement is refused. */
    static final class Refusal extends RuntimeException {
        private static final long serialVersionUID = 1L;
        final int reason;
        final int rule;

        Refusal(int reason, int rule) {
            this.reason = reason;
            this.rule = rule;
        }
    }

    /** Counts of one statement. */
    static final class Counts {
        int operations;
        int deepest;
        int reason;
        int rule = NONE;
        final List<int[]> firings = new ArrayList<>();
    }

    static final class State {
        TreeMap<Integer, int[]> rows = new TreeMap<>();
        List<int[]> rules = new ArrayList<>();
        List<int[]> record = new ArrayList<>();
        int[] settings = {4, 0};
        int[] sums = new int[4];

        State copy() {
            State other = new State();
            for (Map.Entry<Integer, int[]> row : rows.entrySet()) {
                other.rows.put(row.getKey(), row.getValue().clone());
            }
            for (int[] rule : rules) {
                other.rules.add(rule.clone());
            }
            other.record.addAll(record);
            other.settings = settings.clone();
            other.sums = sums.clone();
            return other;
        }

        /** The numbers of the rules of an event and a moment, in their order. */
        List<Integer> inOrder(int event, int moment) {
            List<Integer> numbers = new ArrayList<>();
            for (int number = 0; number < rules.size(); number++) {
                if (rules.get(number)[0] == event && rules.get(number)[1] == moment) {
                    numbers.add(number);
                }
            }
            numbers.sort((p, q) -> rules.get(p)[2] != rules.get(q)[2]
                    ? Integer.compare(rules.get(p)[2], rules.get(q)[2]) : Integer.compare(p, q));
            return numbers;
        }
    }

    State state = new State();
    private final List<State> history = new ArrayList<>();
    private State snapshot;
    private final StringBuilder text = new StringBuilder();
    /** How often each reason for a refusal came up (0: not refused), and how many texts were without a fault. */
    final int[] reasons = new int[4];
    int performed;

    private static boolean out(int value, int least, int most) {
        return value < least || value > most;
    }

    private boolean noRule(int rule) {
        return out(rule, 0, state.rules.size() - 1);
    }

    private void change() {
        history.add(state.copy());
        if (history.size() > 4) {
            history.remove(0);
        }
    }

    int addRule(int event, int moment, int rank, int kind, int a, int b, int c) {
        boolean fits = moment == 0 ? !out(kind, 0, 2) : moment == 1 && (kind == 1 || !out(kind, 3, 5));
        if (!fits || out(event, 0, 2) || out(rank, 0, 99) || out(a, 0, 2) || out(b, 0, 3) || out(c, -999, 999)) {
            return OUT_OF_RANGE;
        }
        if (state.rules.size() == 12) {
            return FULL;
        }
        change();
        state.rules.add(new int[] {event, moment, rank, kind, a, b, c, 3, 4, 0, 1, 0});
        return state.rules.size() - 1;
    }

    int setCondition(int rule, int field, int comparison, int number) {
        if (noRule(rule)) {
            return UNKNOWN;
        }
        if (out(field, 0, 3) || out(comparison, 0, 5) || out(number, -999, 999)) {
            return OUT_OF_RANGE;
        }
        change();
        int[] changed = state.rules.get(rule);
        changed[7] = field;
        changed[8] = comparison;
        changed[9] = number;
        return rule;
    }

    private int on() {
        return (int) state.rules.stream().filter(r -> r[10] == 1).count();
    }

    int put(int rule, boolean on) {
        if (noRule(rule)) {
            return UNKNOWN;
        }
        if ((state.rules.get(rule)[10] == 1) == on) {
            return NONE;
        }
        change();
        state.rules.get(rule)[10] = on ? 1 : 0;
        return on();
    }

    int removeRule(int rule) {
        if (noRule(rule)) {
            return UNKNOWN;
        }
        change();
        state.rules.remove(rule);
        return state.rules.size();
    }

    int set(int setting, int value) {
        if (out(setting, 0, 1)) {
            return UNKNOWN;
        }
        if (setting == 0 ? out(value, 1, 8) : out(value, 0, 1)) {
            return OUT_OF_RANGE;
        }
        int previous = state.settings[setting];
        if (previous == value) {
            return NONE;
        }
        change();
        state.settings[setting] = value;
        return previous;
    }

    /** The error of a statement {event, key, ..}, or NONE for one that is nothing, or 0. */
    private int fault(int... s) {
        int[] row = state.rows.get(s[1]);
        switch (s[0]) {
            case 0:
                if (out(s[1], 0, 99) || out(s[2], -999, 999) || out(s[3], -999, 999) || out(s[4], -999, 999)) {
                    return OUT_OF_RANGE;
                }
                return row != null ? DUPLICATE : state.rows.size() == 20 ? FULL : 0;
            case 1:
                if (row == null) {
                    return UNKNOWN;
                }
                if (out(s[2], 0, 2) || out(s[3], -999, 999)) {
                    return OUT_OF_RANGE;
                }
                return row[s[2]] == s[3] ? NONE : 0;
            default:
                return row == null ? UNKNOWN : 0;
        }
    }

    /** Runs a statement that has no fault; if it is refused, the state is as it was. */
    private Counts run(int... s) {
        State before = state.copy();
        Counts counts = new Counts();
        try {
            operate(counts, new ArrayList<>(), 1, NONE, s);
        } catch (Refusal refusal) {
            state = before;
            counts.reason = refusal.reason;
            counts.rule = refusal.rule;
            reasons[refusal.reason]++;
            return counts;
        }
        reasons[0]++;
        state.record = new ArrayList<>(counts.firings.subList(0, Math.min(60, counts.firings.size())));
        state.sums[0]++;
        state.sums[1] += counts.operations;
        state.sums[2] += counts.firings.size();
        state.sums[3] = Math.max(state.sums[3], counts.deepest);
        return counts;
    }

    private void operate(Counts counts, List<Integer> open, int depth, int cause, int... s) {
        int event = s[0];
        int key = s[1];
        int[] row = state.rows.get(key);
        if (event == 0 && (key < 0 || key > 99 || row != null || state.rows.size() >= 20)
                || event != 0 && row == null || event == 1 && row[s[2]] == s[3]) {
            return;
        }
        if (counts.operations == 100) {
            throw new Refusal(3, cause);
        }
        counts.operations++;
        counts.deepest = Math.max(counts.deepest, depth);
        int[] image = event == 0 ? new int[] {s[2], s[3], s[4], key} : row.clone();
        if (event == 1) {
            image[s[2]] = s[3];
        }
        for (int number : state.inOrder(event, 0)) {
            int[] rule = state.rules.get(number);
            if (fires(rule, number, image, open)) {
                counts.firings.add(new int[] {number, depth, key});
                rule[11]++;
                if (rule[3] == 1) {
                    throw new Refusal(1, number);
                }
                if (rule[3] == 2) {
                    return;
                }
                image[rule[4]] = value(rule, image);
            }
        }
        if (event == 2) {
            state.rows.remove(key);
        } else {
            state.rows.put(key, image.clone());
        }
        for (int number : state.inOrder(event, 1)) {
            int[] rule = state.rules.get(number);
            if (fires(rule, number, image, open)) {
                counts.firings.add(new int[] {number, depth, key});
                rule[11]++;
                if (rule[3] == 1) {
                    throw new Refusal(1, number);
                }
                if (depth == state.settings[0]) {
                    throw new Refusal(2, number);
                }
                List<Integer> deeper = new ArrayList<>(open);
                deeper.add(number);
                int v = value(rule, image);
                switch (rule[3]) {
                    case 3:
                        operate(counts, deeper, depth + 1, number, 0, v, image[0], image[1], image[2]);
                        break;
                    case 4:
                        operate(counts, deeper, depth + 1, number, 1, (key + 1) % 100, rule[4], v);
                        break;
                    default:
                        operate(counts, deeper, depth + 1, number, 2, v);
                        break;
                }
            }
        }
    }

    private boolean fires(int[] rule, int number, int[] image, List<Integer> open) {
        if (rule[10] == 0 || state.settings[1] == 1 && open.contains(number)) {
            return false;
        }
        int order = Integer.compare(image[rule[7]], rule[9]);
        switch (rule[8]) {
            case 0:
                return order < 0;
            case 1:
                return order <= 0;
            case 2:
                return order == 0;
            case 3:
                return order != 0;
            case 4:
                return order >= 0;
            default:
                return order > 0;
        }
    }

    private static int value(int[] rule, int[] image) {
        int sum = image[rule[5]] + rule[6];
        return sum > 999 ? 999 : sum < -999 ? -999 : sum;
    }

    /** The answer of a statement; it is not recorded as a change yet. */
    private int done(int... s) {
        int fault = fault(s);
        if (fault != 0) {
            return fault;
        }
        Counts counts = run(s);
        return counts.reason != 0 ? REFUSED : counts.operations;
    }

    int statement(int... s) {
        State before = state.copy();
        int answer = done(s);
        if (answer >= 0) {
            State after = state;
            state = before;
            change();
            state = after;
        }
        return answer;
    }

    int type(char character) {
        if (text.length() == 80) {
            return FULL;
        }
        text.append(character);
        return text.length();
    }

    int clearText() {
        int length = text.length();
        text.setLength(0);
        return length;
    }

    int perform() {
        if (!LIST.matcher(text).matches()) {
            for (int length = 1; length <= text.length(); length++) {
                Matcher ahead = LIST.matcher(text.substring(0, length));
                // What does not match and was not stopped by its end alone can't be made good by what follows.
                if (!ahead.matches() && !ahead.hitEnd()) {
                    return -2000 - (length - 1);
                }
            }
            return -2000 - text.length();
        }
        performed++;
        State before = state.copy();
        String[] statements = text.toString().split(";");
        for (String one : statements) {
            Matcher m = STATEMENT.matcher(one);
            m.matches();
            int answer;
            if (one.charAt(0) == 'i') {
                answer = done(0, number(m, 1), number(m, 2), number(m, 3), number(m, 4));
            } else if (one.charAt(0) == 'u') {
                answer = done(1, number(m, 5), number(m, 6), number(m, 7));
            } else {
                answer = done(2, number(m, 8));
            }
            if (answer < 0 && answer != NONE) {
                state = before;
                return answer;
            }
        }
        State after = state;
        state = before;
        change();
        state = after;
        return statements.length;
    }

    private static int number(Matcher m, int group) {
        return Integer.parseInt(m.group(group));
    }

    int undo() {
        if (history.isEmpty()) {
            return NONE;
        }
        state = history.remove(history.size() - 1);
        return history.size();
    }

    int keep() {
        snapshot = state.copy();
        return state.rows.size();
    }

    int restore() {
        if (snapshot == null) {
            return NONE;
        }
        change();
        state = snapshot.copy();
        return state.rows.size();
    }

    int field(int key, int field) {
        int[] row = state.rows.get(key);
        return row == null ? UNKNOWN : out(field, 0, 2) ? OUT_OF_RANGE : row[field];
    }

    int keyAt(int rank) {
        return rank < 0 ? OUT_OF_RANGE
                : state.rows.keySet().stream().skip(rank).findFirst().orElse(NONE);
    }

    int rule(int rule, int what) {
        return noRule(rule) ? UNKNOWN : out(what, 0, 11) ? OUT_OF_RANGE : state.rules.get(rule)[what];
    }

    int order(int event, int moment, int place) {
        if (out(event, 0, 2) || out(moment, 0, 1) || place < 0) {
            return OUT_OF_RANGE;
        }
        List<Integer> numbers = state.inOrder(event, moment);
        return place < numbers.size() ? numbers.get(place) : NONE;
    }

    int firing(int index, int what) {
        if (index < 0 || out(what, 0, 2)) {
            return OUT_OF_RANGE;
        }
        return index < state.record.size() ? state.record.get(index)[what] : NONE;
    }

    int total(int what) {
        if (out(what, 0, 11)) {
            return OUT_OF_RANGE;
        }
        int[] all = {state.rows.size(), state.rules.size(), on(), state.settings[0], state.settings[1], state.sums[0],
            state.sums[1], state.sums[2], state.sums[3], state.record.size(), history.size(), text.length()};
        return all[what];
    }

    int ifDone(int what, int... s) {
        int fault = fault(s);
        if (fault != 0 && fault != NONE) {
            return fault;
        }
        if (out(what, 0, 4)) {
            return OUT_OF_RANGE;
        }
        if (fault == NONE) {
            return NONE;
        }
        State before = state.copy();
        Counts counts = run(s);
        state = before;
        return new int[] {counts.reason, counts.rule, counts.operations, counts.firings.size(), counts.deepest}[what];
    }

    int depthFor(int key, int field, int value) {
        int fault = fault(1, key, field, value);
        if (fault != 0) {
            return fault;
        }
        State before = state;
        int least = NONE;
        for (int depth = 8; depth >= 1; depth--) {
            state = before.copy();
            state.settings[0] = depth;
            if (run(1, key, field, value).reason == 0) {
                least = depth;
            }
        }
        state = before;
        return least;
    }
}
