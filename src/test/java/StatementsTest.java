/** Promises 7 to 9, and the operations of the terms. */
public final class StatementsTest {
    private static final int UNKNOWN = -1001;
    private static final int OUT_OF_RANGE = -1002;
    private static final int FULL = -1003;
    private static final int DUPLICATE = -1004;
    private static final int REFUSED = -1005;
    private static final int NONE = -1006;

    public static void main(String[] args) {
        insert();
        update();
        delete();
        rankThenNumber();
        setBeforeEachEvent();
        skip();
        skipEndsItsOwnOperationAlone();
        refuseBefore();
        refuseAfter();
        valuesAreHeldInRange();
        causedInsert();
        causedUpdate();
        causedDelete();
        nothingFiresNoRule();
        updateBackToTheOldValue();
        afterLooksAtTheImage();
        tooDeepAlsoIfNothing();
        tooManyOperations();
        exactlyAHundred();
        guarding();
        guardingIsForOneRule();
        Due.end();
    }

    private static void insert() {
        RuleDepths x = new RuleDepths();
        int[][] wrong = {{-1, 0, 0, 0}, {100, 0, 0, 0}, {5, 1000, 0, 0}, {5, -1000, 0, 0}, {5, 0, 1000, 0},
            {5, 0, -1000, 0}, {5, 0, 0, 1000}, {5, 0, 0, -1000}, {Integer.MIN_VALUE, 0, 0, 0}};
        for (int[] w : wrong) {
            Due.is("insert" + java.util.Arrays.toString(w), x.insert(w[0], w[1], w[2], w[3]), OUT_OF_RANGE);
        }
        Due.is("insert, most", x.insert(99, 999, 999, 999), 1);
        Due.is("insert, least", x.insert(0, -999, -998, -997), 1);
        Due.is("field 0", x.field(0, 0), -999);
        Due.is("field 1", x.field(0, 1), -998);
        Due.is("field 2", x.field(0, 2), -997);
        Due.is("twice", x.insert(99, 0, 0, 0), DUPLICATE);
        Due.is("twice and out of range", x.insert(99, 0, 0, 1000), OUT_OF_RANGE);
        Due.is("the row stays", x.field(99, 2), 999);
        Due.rows(x, 1, 18);
        Due.is("the 21st row", x.insert(50, 0, 0, 0), FULL);
        Due.is("a duplicate comes first", x.insert(18, 0, 0, 0), DUPLICATE);
        Due.is("out of range comes first", x.insert(50, 0, 1000, 0), OUT_OF_RANGE);
        x.addRule(0, 0, 0, 1, 0, 0, 0);
        Due.is("full comes ahead of refused", x.insert(50, 0, 0, 0), FULL);
        Due.is("delete", x.delete(7), 1);
        Due.is("refused", x.insert(50, 0, 0, 0), REFUSED);
        Due.is("rows", x.total(0), 19);
    }

    private static void update() {
        RuleDepths x = new RuleDepths();
        x.insert(3, 1, 2, 3);
        Due.is("no row", x.update(4, 0, 0), UNKNOWN);
        Due.is("no row, wrong field", x.update(4, 9, 0), UNKNOWN);
        Due.is("key -1", x.update(-1, 0, 0), UNKNOWN);
        Due.is("key 100", x.update(100, 0, 0), UNKNOWN);
        Due.is("field -1", x.update(3, -1, 0), OUT_OF_RANGE);
        Due.is("field 3", x.update(3, 3, 0), OUT_OF_RANGE);
        Due.is("value 1000", x.update(3, 0, 1000), OUT_OF_RANGE);
        Due.is("value -1000", x.update(3, 0, -1000), OUT_OF_RANGE);
        Due.is("the same value", x.update(3, 1, 2), NONE);
        Due.is("states", x.total(10), 1);
        Due.is("update 0", x.update(3, 0, -999), 1);
        Due.is("update 1", x.update(3, 1, 999), 1);
        Due.is("update 2", x.update(3, 2, 0), 1);
        Due.is("field 0", x.field(3, 0), -999);
        Due.is("field 1", x.field(3, 1), 999);
        Due.is("field 2", x.field(3, 2), 0);
        x.addRule(1, 0, 0, 1, 0, 0, 0);
        Due.is("refused", x.update(3, 0, 5), REFUSED);
        Due.is("not refused, as it is nothing", x.update(3, 0, -999), NONE);
        Due.is("field 0 stays", x.field(3, 0), -999);
    }

    private static void delete() {
        RuleDepths x = new RuleDepths();
        Due.rows(x, 0, 4);
        Due.is("no row", x.delete(5), UNKNOWN);
        Due.is("key -1", x.delete(-1), UNKNOWN);
        Due.is("key 100", x.delete(100), UNKNOWN);
        Due.is("delete", x.delete(2), 1);
        Due.is("twice", x.delete(2), UNKNOWN);
        Due.is("first key", x.keyAt(0), 0);
        Due.is("third key", x.keyAt(2), 3);
        Due.is("rows", x.total(0), 4);
        for (int place = 0; place < 20; place++) {
            RuleDepths full = new RuleDepths();
            Due.rows(full, 0, 19);
            Due.is("delete one of 20", full.delete(place), 1);
            for (int rank = 0; rank < 19; rank++) {
                Due.is("keyAt(" + rank + ")", full.keyAt(rank), rank < place ? rank : rank + 1);
            }
            Due.is("no 20th row", full.keyAt(19), NONE);
        }
        x.addRule(2, 0, 0, 1, 0, 0, 0);
        Due.is("refused", x.delete(3), REFUSED);
        Due.is("rows", x.total(0), 4);
    }

    private static void rankThenNumber() {
        RuleDepths x = new RuleDepths();
        x.addRule(0, 0, 7, 0, 0, 0, 1);
        x.addRule(0, 0, 3, 0, 1, 0, 0);
        x.addRule(0, 0, 7, 0, 2, 0, 0);
        x.addRule(0, 0, 3, 0, 0, 1, 10);
        // 1: one = zero (5); 3: zero = one + 10 (15); 0: zero + 1 (16); 2: two = zero (16)
        Due.is("insert", x.insert(1, 5, 2, 2), 1);
        Due.is("zero", x.field(1, 0), 16);
        Due.is("one", x.field(1, 1), 5);
        Due.is("two", x.field(1, 2), 16);
        int[] fired = {1, 3, 0, 2};
        for (int index = 0; index < 4; index++) {
            Due.is("firing(" + index + ", 0)", x.firing(index, 0), fired[index]);
            Due.is("firing(" + index + ", 1)", x.firing(index, 1), 1);
            Due.is("firing(" + index + ", 2)", x.firing(index, 2), 1);
        }
    }

    private static void setBeforeEachEvent() {
        RuleDepths x = new RuleDepths();
        x.addRule(1, 0, 0, 0, 1, 0, 1);
        x.addRule(2, 0, 0, 0, 0, 3, 500);
        x.addRule(2, 0, 1, 0, 2, 0, 1);
        x.addRule(2, 1, 0, 3, 0, 3, 1);
        x.insert(7, 1, 1, 1);
        Due.is("a rule of an update does not fire for an insert", x.field(7, 1), 1);
        Due.is("update", x.update(7, 0, 20), 1);
        Due.is("the image of an update has the new value", x.field(7, 1), 21);
        // The row itself is deleted; what is inserted behind it has the fields of the changed image.
        Due.is("delete", x.delete(7), 2);
        Due.is("row 7", x.field(7, 0), UNKNOWN);
        Due.is("row 8, zero", x.field(8, 0), 507);
        Due.is("row 8, one", x.field(8, 1), 21);
        Due.is("row 8, two", x.field(8, 2), 508);
        x.setCondition(2, 0, 2, 508);
        Due.is("a condition looks at the changed image", x.delete(8), 2);
        Due.is("row 9, two", x.field(9, 2), 509);
    }

    private static void skip() {
        RuleDepths x = new RuleDepths();
        x.addRule(0, 0, 1, 2, 0, 0, 0);
        x.addRule(0, 0, 2, 1, 0, 0, 0);
        x.addRule(0, 1, 0, 3, 0, 0, 0);
        Due.is("a skipped insert", x.insert(1, 2, 3, 4), 1);
        Due.is("no row", x.total(0), 0);
        Due.is("statements", x.total(5), 1);
        Due.is("operations", x.total(6), 1);
        Due.is("firings", x.total(7), 1);
        Due.is("depth", x.total(8), 1);
        Due.is("recorded", x.total(9), 1);
        Due.is("the rule", x.firing(0, 0), 0);
        Due.is("it is a change", x.total(10), 4);
        x.put(0, false);
        x.put(1, false);
        x.put(2, false);
        Due.rows(x, 1, 2);
        x.addRule(1, 0, 0, 2, 0, 0, 0);
        x.addRule(2, 0, 0, 2, 0, 0, 0);
        Due.is("a skipped update", x.update(1, 0, 5), 1);
        Due.is("the value", x.field(1, 0), 0);
        Due.is("a skipped delete", x.delete(1), 1);
        Due.is("the row", x.field(1, 0), 0);
    }

    private static void skipEndsItsOwnOperationAlone() {
        RuleDepths x = new RuleDepths();
        Due.rows(x, 1, 3);
        x.addRule(2, 0, 0, 2, 0, 0, 0);
        x.addRule(1, 1, 0, 5, 0, 3, 0);
        x.addRule(1, 1, 1, 4, 2, 0, 0);
        x.setCondition(1, 3, 2, 1);
        x.setCondition(2, 3, 2, 1);
        Due.is("an update, a skipped delete, an update", x.update(1, 0, 6), 3);
        Due.is("the row 1 is there", x.field(1, 0), 6);
        Due.is("the row 2", x.field(2, 2), 6);
        Due.is("firings", x.total(7), 3);
    }

    private static void refuseBefore() {
        RuleDepths x = new RuleDepths();
        x.addRule(0, 0, 0, 0, 0, 0, 1);
        x.addRule(0, 0, 1, 1, 0, 0, 0);
        x.setCondition(1, 0, 2, 6);
        Due.is("not refused", x.insert(1, 4, 0, 0), 1);
        Due.is("refused by the image as it is then", x.insert(2, 5, 0, 0), REFUSED);
        Due.is("rows", x.total(0), 1);
        Due.is("firings", x.total(7), 1);
        Due.is("firings of the rule 0", x.rule(0, 11), 1);
        Due.is("firings of the rule 1", x.rule(1, 11), 0);
        Due.is("statements", x.total(5), 1);
        Due.is("the record stays", x.firing(0, 2), 1);
        Due.is("states", x.total(10), 4);
        Due.is("undo", x.undo(), 3);
        Due.is("the refused one was no change", x.total(0), 0);
    }

    private static void refuseAfter() {
        RuleDepths x = new RuleDepths();
        Due.rows(x, 0, 3);
        x.addRule(1, 1, 0, 4, 0, 0, 1);
        x.addRule(1, 1, 1, 1, 0, 0, 0);
        x.setCondition(0, 3, 0, 2);
        x.setCondition(1, 0, 2, 9);
        // Of the chain 0, 1, 2 the third one has the value 9 and is refused: nothing remains.
        Due.is("refused", x.update(0, 0, 7), REFUSED);
        for (int key = 0; key < 4; key++) {
            Due.is("row " + key, x.field(key, 0), 0);
        }
        Due.is("firings", x.rule(0, 11), 0);
        Due.is("not refused", x.update(0, 0, 10), 3);
        Due.is("row 2", x.field(2, 0), 12);
    }

    private static void valuesAreHeldInRange() {
        RuleDepths x = new RuleDepths();
        x.addRule(0, 0, 0, 0, 0, 0, 999);
        x.addRule(0, 0, 1, 0, 1, 1, -999);
        x.addRule(0, 0, 2, 0, 2, 3, -999);
        Due.is("insert", x.insert(5, 1, -1, 0), 1);
        Due.is("at most 999", x.field(5, 0), 999);
        Due.is("at least -999", x.field(5, 1), -999);
        Due.is("from the key", x.field(5, 2), -994);
    }

    private static void causedInsert() {
        RuleDepths x = new RuleDepths();
        x.addRule(0, 1, 0, 3, 0, 3, 1);
        x.setCondition(0, 3, 0, 3);
        Due.is("a chain of inserts", x.insert(1, 5, 6, 7), 3);
        for (int key = 1; key <= 3; key++) {
            Due.is("zero of " + key, x.field(key, 0), 5);
            Due.is("one of " + key, x.field(key, 1), 6);
            Due.is("two of " + key, x.field(key, 2), 7);
        }
        Due.is("the key is taken", x.insert(0, 0, 0, 0), 1);
        x.setCondition(0, 3, 2, 99);
        Due.is("the key would be 100", x.insert(99, 0, 0, 0), 1);
        x.removeRule(0);
        x.addRule(0, 1, 0, 3, 0, 0, 0);
        Due.is("the key would be -1", x.insert(98, -1, 0, 0), 1);
        Due.rows(x, 4, 16);
        Due.is("the 20th row leaves no room", x.insert(97, 50, 0, 0), 1);
        Due.is("rows", x.total(0), 20);
        Due.is("a firing is there all the same", x.total(9), 1);
    }

    private static void causedUpdate() {
        RuleDepths x = new RuleDepths();
        Due.rows(x, 0, 1);
        x.insert(99, 0, 0, 0);
        x.addRule(1, 1, 0, 4, 2, 1, -3);
        x.setCondition(0, 3, 2, 99);
        Due.is("the row behind 99 is 0", x.update(99, 1, 10), 2);
        Due.is("row 0", x.field(0, 2), 7);
        Due.is("row 1", x.field(1, 2), 0);
        Due.is("the value is there already", x.update(99, 0, 1), 1);
        x.delete(0);
        Due.is("the row is not there", x.update(99, 1, 11), 1);
        x.addRule(2, 1, 0, 4, 0, 3, 0);
        x.insert(0, 0, 0, 0);
        x.update(0, 2, 5);
        Due.is("by a delete", x.delete(99), 2);
        Due.is("row 0", x.field(0, 0), 99);
        Due.is("its other fields stay", x.field(0, 2), 5);
    }

    private static void causedDelete() {
        RuleDepths x = new RuleDepths();
        Due.rows(x, 0, 5);
        x.addRule(2, 1, 0, 5, 0, 3, 2);
        Due.is("0, 2, 4", x.delete(0), 3);
        Due.is("rows", x.total(0), 3);
        Due.is("least key", x.keyAt(0), 1);
        x.addRule(1, 1, 0, 5, 0, 3, 0);
        Due.is("an update deletes its own row", x.update(5, 0, 1), 2);
        Due.is("row 5", x.field(5, 0), UNKNOWN);
    }

    private static void nothingFiresNoRule() {
        RuleDepths x = new RuleDepths();
        x.addRule(0, 1, 0, 5, 0, 0, 0);
        x.addRule(2, 0, 0, 1, 0, 0, 0);
        Due.is("a delete that is nothing is not refused", x.insert(1, 50, 0, 0), 1);
        Due.is("one that is something is", x.insert(2, 1, 0, 0), REFUSED);
        Due.is("depth", x.total(8), 1);
    }

    private static void updateBackToTheOldValue() {
        RuleDepths x = new RuleDepths();
        x.addRule(1, 0, 0, 0, 0, 1, 0);
        x.addRule(1, 1, 0, 3, 0, 3, 1);
        x.insert(1, 5, 5, 5);
        Due.is("the image is as the row was, but rules fire", x.update(1, 0, 9), 2);
        Due.is("row 1", x.field(1, 0), 5);
        Due.is("row 2", x.field(2, 0), 5);
    }

    private static void afterLooksAtTheImage() {
        RuleDepths x = new RuleDepths();
        Due.rows(x, 0, 1);
        x.addRule(1, 1, 0, 5, 0, 3, 0);
        x.addRule(1, 1, 1, 3, 0, 3, 10);
        x.addRule(2, 1, 0, 3, 0, 3, 0);
        // The row 0 is deleted by the rule 0 and inserted again by the rule 2; the rule 1 still has the image.
        Due.is("update", x.update(0, 0, 4), 4);
        Due.is("row 0", x.field(0, 0), 4);
        Due.is("row 10", x.field(10, 0), 4);
        RuleDepths y = new RuleDepths();
        Due.rows(y, 0, 2);
        y.addRule(1, 1, 0, 4, 0, 0, 1);
        y.addRule(1, 1, 1, 4, 1, 0, 0);
        y.setCondition(0, 3, 0, 1);
        y.setCondition(1, 3, 0, 1);
        Due.is("the second rule looks at the image", y.update(0, 0, 3), 3);
        Due.is("row 1, zero", y.field(1, 0), 4);
        Due.is("row 1, one", y.field(1, 1), 3);
    }

    private static void tooDeepAlsoIfNothing() {
        RuleDepths x = new RuleDepths();
        x.set(0, 1);
        x.addRule(0, 1, 0, 5, 0, 0, 0);
        Due.is("the delete would be nothing", x.insert(1, 50, 0, 0), REFUSED);
        Due.is("rows", x.total(0), 0);
        x.set(0, 2);
        Due.is("with the depth 2", x.insert(1, 50, 0, 0), 1);
        x.addRule(0, 1, 1, 1, 0, 0, 0);
        x.removeRule(0);
        x.set(0, 1);
        x.setCondition(0, 0, 2, 1);
        Due.is("rules that cause nothing are not too deep", x.insert(2, 2, 0, 0), 1);
    }

    private static RuleDepths branching() {
        RuleDepths x = new RuleDepths();
        for (int key = 0; key < 9; key++) {
            x.insert(key, 0, 0, 0);
        }
        x.addRule(1, 1, 0, 4, 0, 0, 1);
        x.addRule(1, 1, 0, 4, 0, 0, 2);
        x.addRule(1, 1, 0, 4, 0, 0, 3);
        x.set(0, 8);
        return x;
    }

    private static void tooManyOperations() {
        RuleDepths x = branching();
        x.setCondition(0, 3, 0, 7);
        x.setCondition(1, 3, 0, 7);
        x.setCondition(2, 3, 0, 7);
        Due.is("reason", x.ifUpdated(0, 0, 100, 0), 3);
        Due.is("operations", x.ifUpdated(0, 0, 100, 2), 100);
        Due.is("depth", x.ifUpdated(0, 0, 100, 4), 8);
        Due.is("refused", x.update(0, 0, 100), REFUSED);
        Due.is("row 1", x.field(1, 0), 0);
        Due.is("with no depth", x.depthFor(0, 0, 100), NONE);
    }

    private static void exactlyAHundred() {
        // 1 + 3 * 33 operations: the row 1 is updated 33 times, each time the row 2 and the row 3 are too.
        RuleDepths x = new RuleDepths();
        Due.rows(x, 0, 9);
        for (int rule = 0; rule < 9; rule++) {
            x.addRule(1, 1, 0, 4, 0, 0, rule + 1);
        }
        for (int rule = 0; rule < 9; rule++) {
            x.setCondition(rule, 3, 0, 2);
        }
        // 1 + 9 + 81 = 91 operations; the row 3 gets the other ones.
        Due.is("91 operations", x.update(0, 0, 100), 91);
        x.addRule(1, 1, 50, 4, 1, 0, 0);
        x.setCondition(9, 3, 2, 1);
        // Each of the 9 updates of the row 1 also updates field 1 of the row 2.
        Due.is("100 operations", x.update(0, 0, 200), 100);
        Due.is("operations", x.total(6), 10 + 91 + 100);
        x.addRule(1, 1, 60, 4, 2, 0, 0);
        x.setCondition(10, 3, 2, 0);
        Due.is("101 operations", x.update(0, 0, 300), REFUSED);
        Due.is("reason", x.ifUpdated(0, 0, 300, 0), 3);
        Due.is("rule", x.ifUpdated(0, 0, 300, 1), 10);
        Due.is("operations", x.ifUpdated(0, 0, 300, 2), 100);
        x.setCondition(10, 3, 2, 55);
        x.addRule(1, 1, 60, 4, 1, 1, 0);
        x.setCondition(11, 3, 2, 0);
        Due.is("the 101st one is nothing", x.update(0, 0, 400), 100);
    }

    private static void guarding() {
        RuleDepths x = new RuleDepths();
        Due.rows(x, 0, 6);
        x.addRule(1, 1, 0, 4, 0, 0, 1);
        Due.is("too deep", x.update(0, 0, 1), REFUSED);
        x.set(1, 1);
        Due.is("not within its own firing", x.update(0, 0, 1), 2);
        Due.is("firings", x.total(7), 1);
        Due.is("row 1", x.field(1, 0), 2);
        Due.is("row 2", x.field(2, 0), 0);
        Due.is("the next statement fires it again", x.update(0, 0, 5), 2);
        Due.is("row 1", x.field(1, 0), 6);
        Due.is("too deep", x.set(0, 1) + x.update(0, 0, 9), 4 + REFUSED);
        x.set(0, 2);
        Due.is("a refused one leaves no rule firing", x.update(0, 0, 9), 2);
    }

    private static void guardingIsForOneRule() {
        RuleDepths x = new RuleDepths();
        Due.rows(x, 0, 6);
        x.set(1, 1);
        x.addRule(1, 1, 0, 4, 0, 0, 1);
        x.addRule(1, 1, 1, 4, 0, 0, 10);
        // 0: by the rule 0 the row 1 (2), there the rule 1: the row 2 (12), there none;
        // then by the rule 1 the row 1 (11), there the rule 0: the row 2 (12) is nothing.
        Due.is("update", x.update(0, 0, 1), 4);
        Due.is("row 1", x.field(1, 0), 11);
        Due.is("row 2", x.field(2, 0), 12);
        Due.is("row 3", x.field(3, 0), 0);
        int[][] record = {{0, 1, 0}, {1, 2, 1}, {1, 1, 0}, {0, 2, 1}};
        for (int index = 0; index < record.length; index++) {
            for (int what = 0; what < 3; what++) {
                Due.is("firing(" + index + ", " + what + ")", x.firing(index, what), record[index][what]);
            }
        }
        Due.is("recorded", x.total(9), 4);
    }
}
