/** Promises 1 to 6: a new object, rules and settings. */
public final class RulesTest {
    private static final int UNKNOWN = -1001;
    private static final int OUT_OF_RANGE = -1002;
    private static final int FULL = -1003;
    private static final int REFUSED = -1005;
    private static final int NONE = -1006;

    public static void main(String[] args) {
        newObject();
        addRule();
        addRuleOutOfRange();
        setCondition();
        comparisons();
        put();
        removeRule();
        set();
        Due.end();
    }

    private static void newObject() {
        RuleDepths x = new RuleDepths();
        int[] totals = {0, 0, 0, 4, 0, 0, 0, 0, 0, 0, 0, 0};
        for (int what = 0; what < totals.length; what++) {
            Due.is("new: total(" + what + ")", x.total(what), totals[what]);
        }
        Due.is("new: keyAt(0)", x.keyAt(0), NONE);
        Due.is("new: rule(0, 0)", x.rule(0, 0), UNKNOWN);
        Due.is("new: firing(0, 0)", x.firing(0, 0), NONE);
        Due.is("new: undo()", x.undo(), NONE);
        Due.is("new: restore()", x.restore(), NONE);
        Due.is("new: perform()", x.perform(), -2000);
        for (int key = 0; key < 100; key++) {
            Due.is("new: field(" + key + ", 0)", x.field(key, 0), UNKNOWN);
        }
        RuleDepths other = new RuleDepths();
        other.insert(1, 0, 0, 0);
        other.addRule(0, 0, 0, 0, 0, 0, 0);
        Due.is("objects share nothing: rows", x.total(0), 0);
        Due.is("objects share nothing: rules", x.total(1), 0);
    }

    private static void addRule() {
        RuleDepths x = new RuleDepths();
        Due.is("addRule, most of all", x.addRule(2, 1, 99, 5, 2, 3, 999), 0);
        Due.is("addRule, least of all", x.addRule(0, 0, 0, 0, 0, 0, -999), 1);
        int[] most = {2, 1, 99, 5, 2, 3, 999, 3, 4, 0, 1, 0};
        int[] least = {0, 0, 0, 0, 0, 0, -999, 3, 4, 0, 1, 0};
        for (int what = 0; what < 12; what++) {
            Due.is("rule(0, " + what + ")", x.rule(0, what), most[what]);
            Due.is("rule(1, " + what + ")", x.rule(1, what), least[what]);
        }
        Due.is("a rule is a change", x.total(10), 2);
        for (int number = 2; number < 12; number++) {
            Due.is("addRule, number " + number, x.addRule(1, 0, 5, 2, 0, 0, 0), number);
        }
        Due.is("addRule, the 13th", x.addRule(1, 0, 5, 2, 0, 0, 0), FULL);
        Due.is("addRule, the 13th and out of range", x.addRule(1, 0, 5, 3, 0, 0, 0), OUT_OF_RANGE);
        Due.is("rules", x.total(1), 12);
        Due.is("undo of the 12th", x.undo(), 3);
        Due.is("addRule again", x.addRule(1, 0, 5, 2, 0, 0, 0), 11);
    }

    private static void addRuleOutOfRange() {
        RuleDepths x = new RuleDepths();
        int[][] wrong = {
            {-1, 0, 0, 0, 0, 0, 0}, {3, 0, 0, 0, 0, 0, 0}, {0, -1, 0, 1, 0, 0, 0}, {0, 2, 0, 1, 0, 0, 0},
            {0, 0, -1, 0, 0, 0, 0}, {0, 0, 100, 0, 0, 0, 0}, {0, 0, 0, 0, -1, 0, 0}, {0, 0, 0, 0, 3, 0, 0},
            {0, 0, 0, 0, 0, -1, 0}, {0, 0, 0, 0, 0, 4, 0}, {0, 0, 0, 0, 0, 0, 1000}, {0, 0, 0, 0, 0, 0, -1000},
            {Integer.MIN_VALUE, 0, 0, 0, 0, 0, 0}, {0, 0, 0, 0, 0, 0, Integer.MAX_VALUE},
        };
        for (int[] w : wrong) {
            Due.is("addRule" + java.util.Arrays.toString(w), x.addRule(w[0], w[1], w[2], w[3], w[4], w[5], w[6]),
                    OUT_OF_RANGE);
        }
        boolean[][] allowed = {{true, true, true, false, false, false}, {false, true, false, true, true, true}};
        for (int moment = 0; moment < 2; moment++) {
            for (int kind = -1; kind <= 6; kind++) {
                boolean fits = kind >= 0 && kind < 6 && allowed[moment][kind];
                int number = x.total(1);
                Due.is("addRule, moment " + moment + ", kind " + kind, x.addRule(0, moment, 0, kind, 0, 0, 0),
                        fits ? number : OUT_OF_RANGE);
            }
        }
        Due.is("rules", x.total(1), 7);
    }

    private static void setCondition() {
        RuleDepths x = new RuleDepths();
        x.addRule(0, 0, 0, 0, 0, 0, 0);
        x.addRule(0, 0, 0, 0, 0, 0, 0);
        Due.is("setCondition", x.setCondition(1, 2, 5, -999), 1);
        Due.is("its field", x.rule(1, 7), 2);
        Due.is("its comparison", x.rule(1, 8), 5);
        Due.is("its number", x.rule(1, 9), -999);
        Due.is("the other one's field", x.rule(0, 7), 3);
        Due.is("the same again is a change", x.setCondition(1, 2, 5, -999), 1);
        Due.is("states", x.total(10), 4);
        Due.is("setCondition, most", x.setCondition(0, 3, 0, 999), 0);
        Due.is("rule 2", x.setCondition(2, 0, 0, 0), UNKNOWN);
        Due.is("rule -1", x.setCondition(-1, 0, 0, 0), UNKNOWN);
        Due.is("rule 2, field 4", x.setCondition(2, 4, 0, 0), UNKNOWN);
        int[][] wrong = {{-1, 0, 0}, {4, 0, 0}, {0, -1, 0}, {0, 6, 0}, {0, 0, 1000}, {0, 0, -1000}};
        for (int[] w : wrong) {
            Due.is("setCondition" + java.util.Arrays.toString(w), x.setCondition(0, w[0], w[1], w[2]), OUT_OF_RANGE);
        }
        Due.is("nothing changed", x.rule(0, 9), 999);
    }

    private static void comparisons() {
        boolean[][] holds = {
            {true, false, false}, {true, true, false}, {false, true, false},
            {true, false, true}, {false, true, true}, {false, false, true},
        };
        for (int comparison = 0; comparison < 6; comparison++) {
            for (int field = 0; field < 4; field++) {
                for (int value = 4; value <= 6; value++) {
                    RuleDepths x = new RuleDepths();
                    x.addRule(0, 0, 0, 1, 0, 0, 0);
                    x.setCondition(0, field, comparison, 5);
                    int key = field == 3 ? value : 50;
                    int got = x.insert(key, field == 0 ? value : 9, field == 1 ? value : 9, field == 2 ? value : 9);
                    Due.is("field " + field + ", comparison " + comparison + ", value " + value, got,
                            holds[comparison][value - 4] ? REFUSED : 1);
                }
            }
        }
    }

    private static void put() {
        RuleDepths x = new RuleDepths();
        Due.is("no rule", x.put(0, true), UNKNOWN);
        x.addRule(0, 0, 0, 1, 0, 0, 0);
        x.addRule(0, 0, 0, 0, 0, 0, 7);
        Due.is("rule -1", x.put(-1, false), UNKNOWN);
        Due.is("rule 2", x.put(2, false), UNKNOWN);
        Due.is("on already", x.put(0, true), NONE);
        Due.is("off", x.put(0, false), 1);
        Due.is("off already", x.put(0, false), NONE);
        Due.is("states", x.total(10), 3);
        Due.is("on?", x.rule(0, 10), 0);
        Due.is("a rule that is off does not fire", x.insert(1, 1, 1, 1), 1);
        Due.is("the other one fires", x.field(1, 0), 8);
        Due.is("firings of the one", x.rule(0, 11), 0);
        Due.is("on again", x.put(0, true), 2);
        Due.is("it fires", x.insert(2, 1, 1, 1), REFUSED);
        Due.is("both off", x.put(0, false) + x.put(1, false), 1);
        Due.is("rules on", x.total(2), 0);
    }

    private static void removeRule() {
        RuleDepths x = new RuleDepths();
        for (int number = 0; number < 12; number++) {
            x.addRule(0, 0, 50 - number, 0, 0, 0, number);
        }
        Due.is("first place", x.order(0, 0, 0), 11);
        Due.is("rule 12", x.removeRule(12), UNKNOWN);
        Due.is("rule -1", x.removeRule(-1), UNKNOWN);
        Due.is("remove the middle one", x.removeRule(5), 11);
        Due.is("those ahead keep their numbers", x.rule(4, 6), 4);
        Due.is("those behind move up", x.rule(5, 6), 6);
        Due.is("the last one", x.rule(10, 6), 11);
        Due.is("no rule 11", x.rule(11, 6), UNKNOWN);
        Due.is("first place then", x.order(0, 0, 0), 10);
        Due.is("remove the last one", x.removeRule(10), 10);
        Due.is("remove the first one", x.removeRule(0), 9);
        Due.is("rule 0", x.rule(0, 6), 1);
        Due.is("last place", x.order(0, 0, 8), 0);
        Due.is("behind it", x.order(0, 0, 9), NONE);
        Due.is("undo", x.undo(), 3);
        Due.is("rule 0 is back", x.rule(0, 6), 0);
        x.setCondition(0, 0, 0, -5);
        x.put(0, false);
        for (int left = 9; left >= 0; left--) {
            Due.is("remove", x.removeRule(0), left);
        }
        Due.is("none left", x.removeRule(0), UNKNOWN);
        Due.is("a new rule", x.addRule(1, 1, 1, 1, 1, 1, 1), 0);
        int[] fresh = {1, 1, 1, 1, 1, 1, 1, 3, 4, 0, 1, 0};
        for (int what = 0; what < 12; what++) {
            Due.is("new rule, " + what, x.rule(0, what), fresh[what]);
        }
        RuleDepths y = new RuleDepths();
        y.addRule(0, 0, 0, 0, 0, 0, 1);
        y.insert(1, 0, 0, 0);
        y.removeRule(0);
        y.addRule(0, 0, 0, 0, 0, 0, 1);
        Due.is("a new rule has not fired", y.rule(0, 11), 0);
        Due.is("firings so far stay", y.total(7), 1);
    }

    private static void set() {
        RuleDepths x = new RuleDepths();
        Due.is("setting -1", x.set(-1, 100), UNKNOWN);
        Due.is("setting 2", x.set(2, 0), UNKNOWN);
        Due.is("depth 0", x.set(0, 0), OUT_OF_RANGE);
        Due.is("depth 9", x.set(0, 9), OUT_OF_RANGE);
        Due.is("guarding -1", x.set(1, -1), OUT_OF_RANGE);
        Due.is("guarding 2", x.set(1, 2), OUT_OF_RANGE);
        Due.is("depth 4 already", x.set(0, 4), NONE);
        Due.is("guarding 0 already", x.set(1, 0), NONE);
        Due.is("no states", x.total(10), 0);
        Due.is("depth 1", x.set(0, 1), 4);
        Due.is("depth 8", x.set(0, 8), 1);
        Due.is("guarding 1", x.set(1, 1), 0);
        Due.is("guarding 1 already", x.set(1, 1), NONE);
        Due.is("total(3)", x.total(3), 8);
        Due.is("total(4)", x.total(4), 1);
        Due.is("guarding 0", x.set(1, 0), 1);
        Due.is("states", x.total(10), 4);
    }
}
