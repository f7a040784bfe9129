import java.util.function.ToIntBiFunction;
import java.util.function.ToIntFunction;

/** The boundary cases of promises 2 to 9: each argument's range, and the line of what is returned. */
public final class EdgesOfChangesTest {
    private static final int UNKNOWN = -1001;
    private static final int OUT_OF_RANGE = -1002;
    private static final int FULL = -1003;
    private static final int DUPLICATE = -1004;
    private static final int REFUSED = -1005;
    private static final int NONE = -1006;

    private static final int[] FAR = {Integer.MIN_VALUE, -1001, -1, Integer.MAX_VALUE};

    public static void main(String[] args) {
        addRuleRanges();
        addRuleKinds();
        addRuleAnswers();
        addRuleCondition();
        setConditionRanges();
        setConditionAnswers();
        putAnswers();
        removeRuleAnswers();
        setRanges();
        setAnswers();
        insertRanges();
        insertAnswers();
        updateRanges();
        updateAnswers();
        deleteAnswers();
        refusedCallsChangeNothing();
        refusedCallsOnFullObjects();
        Due.end();
    }

    /** A part of a new rule, or the error of addRule. */
    private static int added(int what, int... r) {
        RuleDepths x = new RuleDepths();
        int answer = x.addRule(r[0], r[1], r[2], r[3], r[4], r[5], r[6]);
        return answer == 0 ? x.rule(0, what) : answer;
    }

    private static void addRuleRanges() {
        Due.sentence("Promise 2", "event: 0 to 2");
        Due.range("event", 0, 2, v -> v, OUT_OF_RANGE, v -> added(0, v, 0, 0, 0, 0, 0, 0));
        Due.range("event, after", 0, 2, v -> v, OUT_OF_RANGE, v -> added(0, v, 1, 0, 5, 0, 0, 0));
        Due.sentence("Promise 2", "moment: 0 or 1");
        Due.range("moment", 0, 1, v -> v, OUT_OF_RANGE, v -> added(1, 0, v, 0, 1, 0, 0, 0));
        Due.sentence("Promise 2", "rank: 0 to 99");
        Due.range("rank", 0, 99, v -> v, OUT_OF_RANGE, v -> added(2, 0, 0, v, 0, 0, 0, 0));
        Due.sentence("Promise 2", "a: 0 to 2");
        Due.range("a", 0, 2, v -> v, OUT_OF_RANGE, v -> added(4, 0, 0, 0, 0, v, 0, 0));
        Due.range("a of a rule that does not use it", 0, 2, v -> v, OUT_OF_RANGE, v -> added(4, 0, 0, 0, 1, v, 0, 0));
        Due.sentence("Promise 2", "b: 0 to 3");
        Due.range("b", 0, 3, v -> v, OUT_OF_RANGE, v -> added(5, 0, 0, 0, 0, 0, v, 0));
        Due.range("b of a rule that does not use it", 0, 3, v -> v, OUT_OF_RANGE, v -> added(5, 0, 0, 0, 2, 0, v, 0));
        Due.sentence("Promise 2", "c: -999 to 999");
        Due.range("c", -999, 999, v -> v, OUT_OF_RANGE, v -> added(6, 0, 0, 0, 0, 0, 0, v));
        Due.range("c, after", -999, 999, v -> v, OUT_OF_RANGE, v -> added(6, 2, 1, 0, 3, 0, 0, v));
    }

    private static void addRuleKinds() {
        Due.sentence("Promise 2", "kind: a kind for this moment: 0 to 2 before, 1 or 3 to 5 after");
        int[] kinds = {Integer.MIN_VALUE, -1, 0, 1, 2, 3, 4, 5, 6, Integer.MAX_VALUE};
        for (int kind : kinds) {
            boolean before = kind >= 0 && kind <= 2;
            boolean after = kind == 1 || kind >= 3 && kind <= 5;
            for (int event = 0; event < 3; event++) {
                Due.is("kind before " + kind, added(3, event, 0, 0, kind, 0, 0, 0), before ? kind : OUT_OF_RANGE);
                Due.is("kind after " + kind, added(3, event, 1, 0, kind, 0, 0, 0), after ? kind : OUT_OF_RANGE);
            }
            Due.is("moment -1, kind " + kind, added(3, 0, -1, 0, kind, 0, 0, 0), OUT_OF_RANGE);
            Due.is("moment 2, kind " + kind, added(3, 0, 2, 0, kind, 0, 0, 0), OUT_OF_RANGE);
        }
    }

    private static void addRuleAnswers() {
        Due.sentence("Promise 2", "Returns its number; OUT_OF_RANGE; FULL if there are 12.");
        RuleDepths x = new RuleDepths();
        for (int number = 0; number < 12; number++) {
            Due.is("the rule " + number, x.addRule(2, 1, 99, 5, 2, 3, 999), number);
        }
        Due.is("FULL", x.addRule(2, 1, 99, 5, 2, 3, 999), FULL);
        int[][] wrong = {{3, 1, 0, 5, 0, 0, 0}, {0, 2, 0, 5, 0, 0, 0}, {0, 1, 100, 5, 0, 0, 0},
            {0, 1, 0, 2, 0, 0, 0}, {0, 1, 0, 5, 3, 0, 0}, {0, 1, 0, 5, 0, 4, 0}, {0, 1, 0, 5, 0, 0, 1000}};
        for (int[] w : wrong) {
            Due.is("OUT_OF_RANGE ahead of FULL", x.addRule(w[0], w[1], w[2], w[3], w[4], w[5], w[6]), OUT_OF_RANGE);
        }
        x.removeRule(0);
        Due.is("with room again", x.addRule(0, 0, 0, 0, 0, 0, 0), 11);
    }

    private static void addRuleCondition() {
        Due.sentence("Promise 2",
                "Adds a rule, without a condition (a condition that always holds: the key is at least 0).");
        RuleDepths x = new RuleDepths();
        x.addRule(0, 0, 0, 1, 0, 0, 0);
        Due.is("its field", x.rule(0, 7), 3);
        Due.is("its comparison", x.rule(0, 8), 4);
        Due.is("its number", x.rule(0, 9), 0);
        Due.is("it holds for the key 0", x.insert(0, -999, -999, -999), REFUSED);
        Due.is("it holds for the key 99", x.insert(99, 999, 999, 999), REFUSED);
        x.setCondition(0, 1, 5, 3);
        x.addRule(0, 0, 0, 0, 0, 0, 0);
        x.insert(1, 0, 0, 0);
        x.removeRule(1);
        x.removeRule(0);
        x.addRule(0, 0, 0, 1, 0, 0, 0);
        x.addRule(0, 0, 0, 1, 0, 0, 0);
        Due.is("a new one has not fired, where one had fired", x.rule(1, 11), 0);
        Due.is("a new one has none, where one had one", 100 * x.rule(0, 7) + 10 * x.rule(0, 8) + x.rule(0, 9), 340);
    }

    /** A rule 0, and a condition of it; answers a part of it, or the error of setCondition. */
    private static int conditioned(int what, int field, int comparison, int number) {
        RuleDepths x = new RuleDepths();
        x.addRule(0, 0, 0, 0, 0, 0, 0);
        int answer = x.setCondition(0, field, comparison, number);
        return answer == 0 ? x.rule(0, what) : answer;
    }

    /** The first numbers of rules that there are not, on an object with so many rules, with the error UNKNOWN. */
    private static void rulesThatThereAre(String name, int count, ToIntFunction<RuleDepths> first,
            ToIntBiFunction<RuleDepths, Integer> call) {
        for (int rule : new int[] {-1, count, Integer.MIN_VALUE, Integer.MAX_VALUE}) {
            Due.is(name + ", rule " + rule + " of " + count, call.applyAsInt(ruled(count), rule), UNKNOWN);
        }
        if (count > 0) {
            int due = first.applyAsInt(ruled(count));
            Due.is(name + ", the first of " + count, call.applyAsInt(ruled(count), 0), due);
        }
    }

    private static RuleDepths ruled(int count) {
        RuleDepths x = new RuleDepths();
        for (int rule = 0; rule < count; rule++) {
            x.addRule(0, 0, rule, 0, 0, 0, rule);
        }
        return x;
    }

    private static void setConditionRanges() {
        Due.sentence("Promise 3", "rule: a rule");
        for (int count : new int[] {0, 1, 11, 12}) {
            rulesThatThereAre("setCondition", count, x -> 0, (x, rule) -> x.setCondition(rule, 0, 0, 0));
        }
        Due.is("setCondition of the last of 12", ruled(12).setCondition(11, 0, 0, 0), 11);
        Due.sentence("Promise 3", "field: 0 to 3");
        Due.range("field", 0, 3, v -> v, OUT_OF_RANGE, v -> conditioned(7, v, 0, 0));
        Due.sentence("Promise 3", "comparison: 0 to 5");
        Due.range("comparison", 0, 5, v -> v, OUT_OF_RANGE, v -> conditioned(8, 0, v, 0));
        Due.sentence("Promise 3", "number: -999 to 999");
        Due.range("number", -999, 999, v -> v, OUT_OF_RANGE, v -> conditioned(9, 0, 0, v));
        Due.range("number for the key", -999, 999, v -> v, OUT_OF_RANGE, v -> conditioned(9, 3, 0, v));
    }

    private static void setConditionAnswers() {
        Due.sentence("Promise 3", "Returns the number of the rule; UNKNOWN; OUT_OF_RANGE.");
        RuleDepths x = ruled(12);
        for (int rule = 0; rule < 12; rule++) {
            Due.is("setCondition", x.setCondition(rule, rule % 4, rule % 6, -rule), rule);
        }
        for (int rule = 0; rule < 12; rule++) {
            Due.is("the number of the rule " + rule, x.rule(rule, 9), -rule);
        }
        Due.is("UNKNOWN ahead of OUT_OF_RANGE, field", x.setCondition(12, 4, 0, 0), UNKNOWN);
        Due.is("UNKNOWN ahead of OUT_OF_RANGE, comparison", x.setCondition(-1, 0, 6, 0), UNKNOWN);
        Due.is("UNKNOWN ahead of OUT_OF_RANGE, number", x.setCondition(12, 0, 0, 1000), UNKNOWN);
    }

    private static void putAnswers() {
        Due.sentence("Promise 4", "rule: a rule");
        for (int count : new int[] {0, 1, 11, 12}) {
            rulesThatThereAre("put off", count, x -> count - 1, (x, rule) -> x.put(rule, false));
            rulesThatThereAre("put on", count, x -> NONE, (x, rule) -> x.put(rule, true));
        }
        Due.sentence("Promise 4", "Returns how many rules are on then; UNKNOWN; NONE if it is so already.");
        RuleDepths x = ruled(12);
        for (int rule = 0; rule < 12; rule++) {
            Due.is("on already", x.put(rule, true), NONE);
            Due.is("off", x.put(rule, false), 11 - rule);
            Due.is("off already", x.put(rule, false), NONE);
            Due.is("rules on", x.total(2), 11 - rule);
        }
        for (int rule = 11; rule >= 0; rule--) {
            Due.is("on", x.put(rule, true), 12 - rule);
        }
        Due.is("the last of 12", x.put(11, false), 11);
        Due.is("rules", x.total(1), 12);
    }

    private static void removeRuleAnswers() {
        Due.sentence("Promise 5", "rule: a rule");
        for (int count : new int[] {0, 1, 11, 12}) {
            rulesThatThereAre("removeRule", count, x -> count - 1, (x, rule) -> x.removeRule(rule));
        }
        Due.sentence("Promise 5", "Returns how many rules are left; UNKNOWN.");
        RuleDepths x = ruled(12);
        for (int left = 11; left >= 0; left--) {
            Due.is("the last one", x.removeRule(left), left);
            Due.is("it is gone", x.removeRule(left), UNKNOWN);
            Due.is("rules", x.total(1), left);
            Due.is("rules on", x.total(2), left);
        }
        RuleDepths y = ruled(2);
        y.put(0, false);
        Due.is("one that is off", y.removeRule(0), 1);
        Due.is("rules on", y.total(2), 1);
        Due.is("the other one is on", y.rule(0, 10), 1);
    }

    private static int setTo(int setting, int value) {
        RuleDepths x = new RuleDepths();
        int answer = x.set(setting, value);
        return answer >= 0 ? x.total(3 + setting) : answer;
    }

    private static void setRanges() {
        Due.sentence("OPERATIONS",
                "Settings (in parentheses: range; first value): 0 the greatest depth (1 to 8; 4), 1 guarding (0 off, 1 "
                + "on; 0).");
        Due.is("the first greatest depth", new RuleDepths().total(3), 4);
        Due.is("guarding at first", new RuleDepths().total(4), 0);
        Due.sentence("Promise 6", "value: in its range");
        Due.range("the greatest depth", 1, 8, v -> v, OUT_OF_RANGE, v -> setTo(0, v));
        Due.range("guarding", 0, 1, v -> v == 0 ? NONE : v, OUT_OF_RANGE, v -> setTo(1, v));
        Due.sentence("Promise 6", "setting: 0 or 1");
        Due.range("setting", 0, 1, v -> v == 0 ? 4 : 0, UNKNOWN, v -> new RuleDepths().set(v, 1));
    }

    private static void setAnswers() {
        Due.sentence("Promise 6",
                "Returns the previous value; UNKNOWN (there is no such setting); OUT_OF_RANGE; NONE if it has this "
                + "value already.");
        RuleDepths x = new RuleDepths();
        int previous = 4;
        for (int depth : new int[] {1, 8, 2, 7, 3, 6, 4, 5}) {
            Due.is("set to " + depth, x.set(0, depth), previous);
            Due.is("again", x.set(0, depth), NONE);
            previous = depth;
        }
        Due.is("guarding off already", x.set(1, 0), NONE);
        Due.is("guarding on", x.set(1, 1), 0);
        Due.is("guarding on already", x.set(1, 1), NONE);
        Due.is("guarding off", x.set(1, 0), 1);
        for (int value : new int[] {0, 9, -1, 4, 1000}) {
            Due.is("UNKNOWN ahead of OUT_OF_RANGE", x.set(2, value), UNKNOWN);
            Due.is("UNKNOWN ahead of OUT_OF_RANGE", x.set(-1, value), UNKNOWN);
        }
        Due.is("the one has not changed the other", 10 * x.total(3) + x.total(4), 50);
    }

    private static int inserted(int field, int key, int zero, int one, int two) {
        RuleDepths x = new RuleDepths();
        int answer = x.insert(key, zero, one, two);
        return answer == 1 ? field == 3 ? x.keyAt(0) : x.field(key, field) : answer;
    }

    private static void insertRanges() {
        Due.sentence("Promise 7", "key: 0 to 99");
        Due.range("key", 0, 99, v -> v, OUT_OF_RANGE, v -> inserted(3, v, 0, 0, 0));
        Due.sentence("Promise 7", "zero: the field 0, -999 to 999");
        Due.range("zero", -999, 999, v -> v, OUT_OF_RANGE, v -> inserted(0, 9, v, 1, 2));
        Due.sentence("Promise 7", "one: the field 1, -999 to 999");
        Due.range("one", -999, 999, v -> v, OUT_OF_RANGE, v -> inserted(1, 9, 0, v, 2));
        Due.sentence("Promise 7", "two: the field 2, -999 to 999");
        Due.range("two", -999, 999, v -> v, OUT_OF_RANGE, v -> inserted(2, 9, 0, 1, v));
    }

    private static void insertAnswers() {
        Due.sentence("Promise 7",
                "Returns how many operations the statement consists of; OUT_OF_RANGE; DUPLICATE; FULL if there are 20 "
                + "rows; REFUSED.");
        RuleDepths x = new RuleDepths();
        x.addRule(0, 0, 0, 1, 0, 0, 0);
        x.setCondition(0, 0, 2, 7);
        Due.is("REFUSED into the empty table", x.insert(0, 7, 0, 0), REFUSED);
        Due.rows(x, 0, 17);
        x.insert(18, 0, 0, 0);
        Due.is("REFUSED as the 20th", x.insert(19, 7, 0, 0), REFUSED);
        Due.is("DUPLICATE ahead of REFUSED", x.insert(0, 7, 0, 0), DUPLICATE);
        Due.is("OUT_OF_RANGE ahead of REFUSED", x.insert(50, 7, 1000, 0), OUT_OF_RANGE);
        Due.is("the 20th", x.insert(19, 0, 0, 0), 1);
        Due.is("FULL", x.insert(50, 0, 0, 0), FULL);
        Due.is("FULL ahead of REFUSED", x.insert(50, 7, 0, 0), FULL);
        Due.is("DUPLICATE ahead of FULL", x.insert(19, 0, 0, 0), DUPLICATE);
        Due.is("OUT_OF_RANGE ahead of DUPLICATE, zero", x.insert(19, 1000, 0, 0), OUT_OF_RANGE);
        Due.is("OUT_OF_RANGE ahead of DUPLICATE, one", x.insert(19, 0, -1000, 0), OUT_OF_RANGE);
        Due.is("OUT_OF_RANGE ahead of DUPLICATE, two", x.insert(19, 0, 0, 1000), OUT_OF_RANGE);
        Due.is("OUT_OF_RANGE ahead of FULL", x.insert(100, 0, 0, 0), OUT_OF_RANGE);
        RuleDepths y = new RuleDepths();
        y.addRule(0, 1, 0, 3, 0, 3, 1);
        y.setCondition(0, 3, 0, 99);
        y.set(0, 8);
        Due.is("eight operations", y.insert(92, 0, 0, 0), 8);
        Due.is("the last one", y.keyAt(7), 99);
    }

    private static int updated(int field, int value) {
        RuleDepths x = new RuleDepths();
        x.insert(9, 5, 6, 7);
        int answer = x.update(9, field, value);
        return answer == 1 ? x.field(9, field) : answer;
    }

    private static void updateRanges() {
        Due.sentence("Promise 8", "key: the key of a row");
        for (int key : new int[] {0, 99}) {
            RuleDepths x = new RuleDepths();
            x.insert(key, 0, 0, 0);
            Due.is("update of " + key, x.update(key, 0, 1), 1);
            Due.is("the key below", x.update(key - 1, 0, 1), UNKNOWN);
            Due.is("the key above", x.update(key + 1, 0, 1), UNKNOWN);
            for (int far : FAR) {
                Due.is("update of " + far, x.update(far, 0, 1), UNKNOWN);
            }
            Due.is("of the key 100", x.update(100, 0, 1), UNKNOWN);
        }
        Due.sentence("Promise 8", "field: 0 to 2");
        Due.range("field", 0, 2, v -> 900, OUT_OF_RANGE, v -> updated(v, 900));
        Due.sentence("Promise 8", "value: -999 to 999");
        Due.range("value of zero", -999, 999, v -> v, OUT_OF_RANGE, v -> updated(0, v));
        Due.range("value of one", -999, 999, v -> v, OUT_OF_RANGE, v -> updated(1, v));
        Due.range("value of two", -999, 999, v -> v, OUT_OF_RANGE, v -> updated(2, v));
    }

    private static void updateAnswers() {
        Due.sentence("Promise 8",
                "Returns how many operations the statement consists of; UNKNOWN; OUT_OF_RANGE; REFUSED; NONE if the "
                + "field has this value already.");
        RuleDepths x = new RuleDepths();
        x.insert(9, 5, -999, 999);
        Due.is("NONE", x.update(9, 0, 5), NONE);
        Due.is("NONE at the least value", x.update(9, 1, -999), NONE);
        Due.is("NONE at the greatest value", x.update(9, 2, 999), NONE);
        Due.is("not by the value of another field", x.update(9, 0, 999), 1);
        Due.is("OUT_OF_RANGE, though held at the bound", x.update(9, 2, 1000), OUT_OF_RANGE);
        Due.is("UNKNOWN ahead of OUT_OF_RANGE, field", x.update(8, 3, 0), UNKNOWN);
        Due.is("UNKNOWN ahead of OUT_OF_RANGE, value", x.update(100, 0, 1000), UNKNOWN);
        x.addRule(1, 0, 0, 1, 0, 0, 0);
        Due.is("REFUSED", x.update(9, 0, 4), REFUSED);
        Due.is("UNKNOWN ahead of REFUSED", x.update(8, 0, 4), UNKNOWN);
        Due.is("OUT_OF_RANGE ahead of REFUSED", x.update(9, -1, 4), OUT_OF_RANGE);
        Due.is("what is nothing is not refused", x.update(9, 0, 999), NONE);
        RuleDepths y = new RuleDepths();
        Due.rows(y, 0, 7);
        y.addRule(1, 1, 0, 4, 0, 0, 1);
        y.setCondition(0, 3, 0, 7);
        y.set(0, 8);
        for (int key = 0; key < 8; key++) {
            Due.is("operations from the row " + key, y.update(key, 0, 500 + 10 * key), 8 - key);
        }
    }

    private static void deleteAnswers() {
        Due.sentence("Promise 9", "key: the key of a row");
        Due.is("of the empty table", new RuleDepths().delete(0), UNKNOWN);
        RuleDepths x = new RuleDepths();
        Due.rowsOf(x, 0, 99, 50);
        for (int key : new int[] {-1, 1, 49, 51, 98, 100, Integer.MIN_VALUE, Integer.MAX_VALUE}) {
            Due.is("delete of " + key, x.delete(key), UNKNOWN);
        }
        for (int key : new int[] {0, 99, 50}) {
            Due.is("delete of " + key, x.delete(key), 1);
            Due.is("again", x.delete(key), UNKNOWN);
        }
        Due.is("rows", x.total(0), 0);
        Due.sentence("Promise 9", "Returns how many operations the statement consists of; UNKNOWN; REFUSED.");
        x.insert(7, 0, 0, 0);
        x.addRule(2, 0, 0, 1, 0, 0, 0);
        Due.is("REFUSED", x.delete(7), REFUSED);
        Due.is("UNKNOWN ahead of REFUSED", x.delete(8), UNKNOWN);
        RuleDepths y = new RuleDepths();
        Due.rows(y, 92, 99);
        y.addRule(2, 1, 0, 5, 0, 3, 1);
        y.setCondition(0, 3, 0, 99);
        y.set(0, 8);
        Due.is("eight operations", y.delete(92), 8);
        Due.is("rows", y.total(0), 0);
    }

    /** An object with rows, rules, counts, a record, a text, a snapshot and a full history. */
    private static void made(RuleDepths x) {
        x.addRule(1, 1, 3, 4, 0, 0, 1);
        x.addRule(2, 0, 0, 1, 0, 0, 0);
        x.addRule(0, 0, 0, 1, 0, 0, 0);
        x.setCondition(2, 0, 2, 77);
        x.put(1, false);
        x.insert(1, 0, 0, 0);
        x.insert(2, 0, 0, 0);
        x.keep();
        Due.typed(x, "i3=1,1,1;d3;u2.1=6");
        x.put(1, true);
        x.update(1, 0, 5);
        x.set(0, 3);
        x.addRule(1, 0, 5, 1, 0, 0, 0);
        x.setCondition(3, 0, 2, 66);
    }

    private static void refused(String name, ToIntFunction<RuleDepths> call, int due) {
        Twins.unchanged(name, EdgesOfChangesTest::made, call, due);
    }

    private static void refusedCallsChangeNothing() {
        Due.sentence("ERRORS", "A method that returns an error or NONE changes nothing.");
        refused("addRule, kind", x -> x.addRule(0, 0, 0, 3, 0, 0, 0), OUT_OF_RANGE);
        refused("addRule, c", x -> x.addRule(0, 0, 0, 0, 0, 0, 1000), OUT_OF_RANGE);
        refused("setCondition, rule", x -> x.setCondition(4, 1, 1, 1), UNKNOWN);
        refused("setCondition, field", x -> x.setCondition(0, 4, 1, 1), OUT_OF_RANGE);
        refused("setCondition, comparison", x -> x.setCondition(0, 1, 6, 1), OUT_OF_RANGE);
        refused("setCondition, number", x -> x.setCondition(0, 1, 1, -1000), OUT_OF_RANGE);
        refused("put, rule", x -> x.put(4, false), UNKNOWN);
        refused("put, on already", x -> x.put(0, true), NONE);
        refused("removeRule", x -> x.removeRule(4), UNKNOWN);
        refused("set, setting", x -> x.set(2, 1), UNKNOWN);
        refused("set, value", x -> x.set(0, 9), OUT_OF_RANGE);
        refused("set, already", x -> x.set(0, 3), NONE);
        refused("insert, key", x -> x.insert(100, 0, 0, 0), OUT_OF_RANGE);
        refused("insert, two", x -> x.insert(3, 0, 0, 1000), OUT_OF_RANGE);
        refused("insert, duplicate", x -> x.insert(2, 8, 8, 8), DUPLICATE);
        refused("insert, refused", x -> x.insert(3, 77, 0, 0), REFUSED);
        refused("update, key", x -> x.update(3, 0, 1), UNKNOWN);
        refused("update, field", x -> x.update(1, 3, 1), OUT_OF_RANGE);
        refused("update, value", x -> x.update(1, 0, 1000), OUT_OF_RANGE);
        refused("update, refused at once", x -> x.update(1, 0, 66), REFUSED);
        refused("update, refused behind an operation", x -> x.update(1, 0, 65), REFUSED);
        refused("update, already", x -> x.update(1, 0, 5), NONE);
        refused("delete, key", x -> x.delete(3), UNKNOWN);
        refused("delete, refused", x -> x.delete(1), REFUSED);
        refused("field, key", x -> x.field(3, 0), UNKNOWN);
        refused("field, field", x -> x.field(1, 3), OUT_OF_RANGE);
        refused("keyAt", x -> x.keyAt(2), NONE);
        refused("rule", x -> x.rule(0, 12), OUT_OF_RANGE);
        refused("order", x -> x.order(0, 0, 1), NONE);
        refused("firing", x -> x.firing(2, 0), NONE);
        refused("total", x -> x.total(12), OUT_OF_RANGE);
        refused("ifInserted, duplicate", x -> x.ifInserted(2, 0, 0, 0, 0), DUPLICATE);
        refused("ifInserted, what", x -> x.ifInserted(3, 0, 0, 0, 5), OUT_OF_RANGE);
        refused("ifUpdated, already", x -> x.ifUpdated(1, 0, 5, 0), NONE);
        refused("ifUpdated, what", x -> x.ifUpdated(1, 0, 6, 5), OUT_OF_RANGE);
        refused("ifDeleted, key", x -> x.ifDeleted(3, 0), UNKNOWN);
        refused("depthFor, already", x -> x.depthFor(1, 0, 5), NONE);
        refused("depthFor, refused", x -> x.depthFor(1, 0, 66), NONE);
    }

    private static void refusedCallsOnFullObjects() {
        Twins.unchanged("undo without a state", x -> {
            x.keep();
            Due.typed(x, "i1=1,2,3");
        }, RuleDepths::undo, NONE);
        Twins.unchanged("restore without a snapshot", x -> {
            x.insert(1, 0, 0, 0);
            Due.typed(x, "d1");
        }, RuleDepths::restore, NONE);
        Twins.unchanged("insert into the full table", x -> {
            for (int key = 0; key < 20; key++) {
                x.insert(key, key, 0, 0);
            }
            x.keep();
        }, x -> x.insert(20, 0, 0, 0), FULL);
        Twins.unchanged("addRule to the full list", x -> {
            for (int rule = 0; rule < 12; rule++) {
                x.addRule(0, 0, rule, 0, 0, 0, rule);
            }
            x.keep();
        }, x -> x.addRule(0, 0, 0, 0, 0, 0, 0), FULL);
        Twins.unchanged("type behind the full text", x -> {
            x.insert(1, 0, 0, 0);
            x.keep();
            for (int statement = 0; statement < 10; statement++) {
                Due.typed(x, "u1.0=" + (statement < 9 ? statement + 1 + "0;" : "998"));
            }
        }, x -> x.type('9'), FULL);
    }
}
