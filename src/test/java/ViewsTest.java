/** Promises 16 to 21: what there is. */
public final class ViewsTest {
    private static final int UNKNOWN = -1001;
    private static final int OUT_OF_RANGE = -1002;
    private static final int REFUSED = -1005;
    private static final int NONE = -1006;

    public static void main(String[] args) {
        field();
        keyAt();
        rule();
        order();
        firing();
        sixtyFirings();
        recordKeepsItsNumbers();
        total();
        Due.end();
    }

    private static void field() {
        RuleDepths x = new RuleDepths();
        x.insert(5, 10, 20, 30);
        Due.is("zero", x.field(5, 0), 10);
        Due.is("one", x.field(5, 1), 20);
        Due.is("two", x.field(5, 2), 30);
        Due.is("field 3", x.field(5, 3), OUT_OF_RANGE);
        Due.is("field -1", x.field(5, -1), OUT_OF_RANGE);
        Due.is("no row", x.field(6, 0), UNKNOWN);
        Due.is("no row, field 3", x.field(6, 3), UNKNOWN);
        Due.is("key -1", x.field(-1, 0), UNKNOWN);
        Due.is("key 100", x.field(100, 0), UNKNOWN);
        Due.is("no key 0", x.field(0, 0), UNKNOWN);
    }

    private static void keyAt() {
        RuleDepths x = new RuleDepths();
        int[] keys = {50, 3, 99, 0, 51, 49};
        for (int key : keys) {
            x.insert(key, key, key, key);
        }
        int[] sorted = {0, 3, 49, 50, 51, 99};
        for (int rank = 0; rank < sorted.length; rank++) {
            Due.is("keyAt(" + rank + ")", x.keyAt(rank), sorted[rank]);
            Due.is("its field", x.field(sorted[rank], 1), sorted[rank]);
        }
        Due.is("keyAt(6)", x.keyAt(6), NONE);
        Due.is("keyAt(most)", x.keyAt(Integer.MAX_VALUE), NONE);
        Due.is("keyAt(-1)", x.keyAt(-1), OUT_OF_RANGE);
        Due.is("keyAt(least)", x.keyAt(Integer.MIN_VALUE), OUT_OF_RANGE);
        x.delete(49);
        Due.is("keyAt(2)", x.keyAt(2), 50);
        Due.is("keyAt(5)", x.keyAt(5), NONE);
        RuleDepths y = new RuleDepths();
        for (int key = 19; key >= 0; key--) {
            y.insert(key, 0, 0, 0);
        }
        Due.is("the 20th key", y.keyAt(19), 19);
        Due.is("no 21st", y.keyAt(20), NONE);
    }

    private static void rule() {
        RuleDepths x = new RuleDepths();
        x.addRule(1, 1, 42, 4, 2, 1, -7);
        x.setCondition(0, 1, 3, 12);
        x.insert(1, 0, 0, 0);
        x.update(1, 0, 3);
        x.put(0, false);
        int[] due = {1, 1, 42, 4, 2, 1, -7, 1, 3, 12, 0, 1};
        for (int what = 0; what < due.length; what++) {
            Due.is("rule(0, " + what + ")", x.rule(0, what), due[what]);
        }
        Due.is("what -1", x.rule(0, -1), OUT_OF_RANGE);
        Due.is("what 12", x.rule(0, 12), OUT_OF_RANGE);
        Due.is("rule 1", x.rule(1, 0), UNKNOWN);
        Due.is("rule -1", x.rule(-1, 0), UNKNOWN);
        Due.is("rule 1, what 12", x.rule(1, 12), UNKNOWN);
    }

    private static void order() {
        RuleDepths x = new RuleDepths();
        x.addRule(0, 0, 5, 0, 0, 0, 0);
        x.addRule(0, 1, 0, 1, 0, 0, 0);
        x.addRule(0, 0, 5, 0, 0, 0, 0);
        x.addRule(0, 0, 2, 0, 0, 0, 0);
        x.addRule(1, 0, 1, 0, 0, 0, 0);
        x.addRule(0, 0, 99, 0, 0, 0, 0);
        x.put(0, false);
        int[] due = {3, 0, 2, 5};
        for (int place = 0; place < due.length; place++) {
            Due.is("order(0, 0, " + place + ")", x.order(0, 0, place), due[place]);
        }
        Due.is("no fifth", x.order(0, 0, 4), NONE);
        Due.is("after", x.order(0, 1, 0), 1);
        Due.is("no second", x.order(0, 1, 1), NONE);
        Due.is("update", x.order(1, 0, 0), 4);
        Due.is("none", x.order(2, 1, 0), NONE);
        Due.is("event -1", x.order(-1, 0, 0), OUT_OF_RANGE);
        Due.is("event 3", x.order(3, 0, 0), OUT_OF_RANGE);
        Due.is("moment -1", x.order(0, -1, 0), OUT_OF_RANGE);
        Due.is("moment 2", x.order(0, 2, 0), OUT_OF_RANGE);
        Due.is("place -1", x.order(0, 0, -1), OUT_OF_RANGE);
        Due.is("place -1, none", x.order(2, 1, -1), OUT_OF_RANGE);
        Due.is("place most", x.order(0, 0, Integer.MAX_VALUE), NONE);
    }

    private static void firing() {
        RuleDepths x = new RuleDepths();
        Due.is("none yet", x.firing(0, 0), NONE);
        x.addRule(0, 1, 0, 3, 0, 3, 1);
        x.setCondition(0, 3, 0, 3);
        x.insert(1, 0, 0, 0);
        int[][] due = {{0, 1, 1}, {0, 2, 2}};
        for (int index = 0; index < due.length; index++) {
            for (int what = 0; what < 3; what++) {
                Due.is("firing(" + index + ", " + what + ")", x.firing(index, what), due[index][what]);
            }
        }
        Due.is("index 2", x.firing(2, 0), NONE);
        Due.is("index most", x.firing(Integer.MAX_VALUE, 0), NONE);
        Due.is("index -1", x.firing(-1, 0), OUT_OF_RANGE);
        Due.is("what -1", x.firing(0, -1), OUT_OF_RANGE);
        Due.is("what 3", x.firing(0, 3), OUT_OF_RANGE);
        Due.is("index 2, what 3", x.firing(2, 3), OUT_OF_RANGE);
        x.update(1, 0, 0);
        Due.is("a statement that is nothing leaves it", x.total(9), 2);
        x.addRule(2, 0, 0, 1, 0, 0, 0);
        Due.is("refused", x.delete(1), REFUSED);
        Due.is("a refused one leaves it", x.firing(1, 2), 2);
        x.update(1, 0, 8);
        Due.is("one without a firing empties it", x.firing(0, 0), NONE);
    }

    private static void sixtyFirings() {
        RuleDepths x = new RuleDepths();
        Due.rows(x, 0, 9);
        for (int rule = 0; rule < 9; rule++) {
            x.addRule(1, 1, 0, 4, 0, 0, rule + 1);
            x.setCondition(rule, 3, 0, 2);
        }
        // 9 firings for the row 0, and for each of its 9 updates of the row 1 again 9.
        Due.is("update", x.update(0, 0, 100), 91);
        Due.is("firings", x.total(7), 90);
        Due.is("recorded", x.total(9), 60);
        Due.is("firing(59, 0)", x.firing(59, 0), 8);
        Due.is("firing(59, 1)", x.firing(59, 1), 2);
        Due.is("firing(59, 2)", x.firing(59, 2), 1);
        Due.is("firing(60, 0)", x.firing(60, 0), NONE);
        Due.is("firing(50, 0)", x.firing(50, 0), 5);
        Due.is("firing(50, 1)", x.firing(50, 1), 1);
        Due.is("firing(50, 2)", x.firing(50, 2), 0);
        Due.is("firings of the rule 8", x.rule(8, 11), 10);
    }

    private static void recordKeepsItsNumbers() {
        RuleDepths x = new RuleDepths();
        x.addRule(1, 0, 0, 0, 0, 0, 0);
        x.addRule(0, 0, 0, 0, 0, 0, 0);
        x.insert(1, 0, 0, 0);
        x.removeRule(0);
        Due.is("by its number then", x.firing(0, 0), 1);
        x.removeRule(0);
        Due.is("also of a rule that is gone", x.firing(0, 0), 1);
        Due.is("firings so far", x.total(7), 1);
    }

    private static void total() {
        RuleDepths x = new RuleDepths();
        x.addRule(0, 1, 0, 3, 0, 3, 1);
        x.addRule(0, 0, 0, 0, 1, 3, 0);
        x.setCondition(0, 3, 0, 4);
        x.put(1, false);
        x.set(0, 5);
        x.set(1, 0);
        Due.is("insert", x.insert(1, 0, 0, 0), 4);
        Due.is("insert", x.insert(9, 0, 0, 0), 1);
        Due.is("nothing", x.update(9, 0, 0), NONE);
        Due.typed(x, "d9;");
        int[] due = {5, 2, 1, 5, 0, 2, 5, 3, 4, 0, 4, 3};
        for (int what = 0; what < due.length; what++) {
            Due.is("total(" + what + ")", x.total(what), due[what]);
        }
        Due.is("total(-1)", x.total(-1), OUT_OF_RANGE);
        Due.is("total(12)", x.total(12), OUT_OF_RANGE);
        Due.is("total(least)", x.total(Integer.MIN_VALUE), OUT_OF_RANGE);
        x.set(1, 1);
        Due.is("guarding", x.total(4), 1);
    }
}
