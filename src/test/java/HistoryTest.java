/** Promises 13 to 15: history and snapshot. */
public final class HistoryTest {
    private static final int UNKNOWN = -1001;
    private static final int OUT_OF_RANGE = -1002;
    private static final int NONE = -1006;

    public static void main(String[] args) {
        undoOfEachChange();
        fourStates();
        errorsAreNoChanges();
        undoBringsAllBack();
        theRecordComesBack();
        keepAndRestore();
        textHistoryAndSnapshotAreNoState();
        Due.end();
    }

    private static void undoOfEachChange() {
        RuleDepths x = new RuleDepths();
        x.addRule(1, 0, 9, 0, 1, 0, 2);
        x.setCondition(0, 1, 3, 77);
        Due.is("undo of setCondition", x.undo(), 1);
        Due.is("field", x.rule(0, 7), 3);
        Due.is("comparison", x.rule(0, 8), 4);
        Due.is("number", x.rule(0, 9), 0);
        x.put(0, false);
        Due.is("undo of put", x.undo(), 1);
        Due.is("on", x.rule(0, 10), 1);
        x.addRule(1, 0, 1, 2, 0, 0, 0);
        x.removeRule(0);
        Due.is("undo of removeRule", x.undo(), 2);
        Due.is("rank of the rule 0", x.rule(0, 2), 9);
        Due.is("order", x.order(1, 0, 0), 1);
        Due.is("undo of addRule", x.undo(), 1);
        Due.is("rules", x.total(1), 1);
        Due.is("order", x.order(1, 0, 0), 0);
        x.set(0, 7);
        x.set(1, 1);
        Due.is("undo of set", x.undo(), 2);
        Due.is("guarding", x.total(4), 0);
        Due.is("depth", x.total(3), 7);
        Due.is("undo of set", x.undo(), 1);
        Due.is("depth", x.total(3), 4);
        x.insert(1, 1, 2, 3);
        x.update(1, 0, 9);
        Due.is("undo of update", x.undo(), 2);
        Due.is("zero", x.field(1, 0), 1);
        Due.is("one", x.field(1, 1), 2);
        Due.is("firings of the rule", x.rule(0, 11), 0);
        x.delete(1);
        Due.is("undo of delete", x.undo(), 2);
        Due.is("two", x.field(1, 2), 3);
        Due.is("undo of insert", x.undo(), 1);
        Due.is("no row", x.field(1, 0), UNKNOWN);
        Due.is("undo of addRule", x.undo(), 0);
        Due.is("rules", x.total(1), 0);
        Due.is("no undo", x.undo(), NONE);
    }

    private static void fourStates() {
        RuleDepths x = new RuleDepths();
        for (int key = 0; key < 7; key++) {
            x.insert(key, key, 0, 0);
            Due.is("states", x.total(10), Math.min(4, key + 1));
        }
        for (int left = 3; left >= 0; left--) {
            Due.is("undo", x.undo(), left);
            Due.is("rows", x.total(0), 3 + left);
            Due.is("the last row", x.keyAt(2 + left), 2 + left);
        }
        Due.is("undo", x.undo(), NONE);
        Due.is("rows", x.total(0), 3);
        x.insert(50, 0, 0, 0);
        Due.is("states", x.total(10), 1);
        Due.is("undo", x.undo(), 0);
    }

    private static void errorsAreNoChanges() {
        RuleDepths x = new RuleDepths();
        x.addRule(2, 0, 0, 1, 0, 0, 0);
        x.insert(1, 0, 0, 0);
        x.addRule(9, 0, 0, 0, 0, 0, 0);
        x.setCondition(5, 0, 0, 0);
        x.setCondition(0, 9, 0, 0);
        x.put(0, true);
        x.put(7, true);
        x.removeRule(3);
        x.set(0, 4);
        x.set(0, 99);
        x.set(5, 0);
        x.insert(1, 0, 0, 0);
        x.insert(100, 0, 0, 0);
        x.update(1, 0, 0);
        x.update(2, 0, 0);
        x.update(1, 0, 5000);
        x.delete(1);
        x.delete(2);
        x.perform();
        x.restore();
        x.type('d');
        x.clearText();
        x.keep();
        x.ifInserted(2, 0, 0, 0, 2);
        x.ifUpdated(1, 0, 1, 2);
        x.ifDeleted(1, 2);
        x.depthFor(1, 0, 1);
        Due.is("states", x.total(10), 2);
        Due.is("undo", x.undo(), 1);
        Due.is("rows", x.total(0), 0);
    }

    private static void undoBringsAllBack() {
        RuleDepths x = new RuleDepths();
        x.addRule(0, 1, 0, 3, 0, 3, 1);
        x.setCondition(0, 3, 0, 2);
        x.insert(1, 0, 0, 0);
        int[] totals = new int[10];
        for (int what = 0; what < 10; what++) {
            totals[what] = x.total(what);
        }
        x.removeRule(0);
        x.insert(9, 0, 0, 0);
        Due.is("recorded", x.total(9), 0);
        x.undo();
        Due.is("recorded again", x.total(9), 1);
        Due.is("the recorded rule, by its number then", x.firing(0, 0), 0);
        x.undo();
        for (int what = 0; what < 10; what++) {
            Due.is("total(" + what + ")", x.total(what), totals[what]);
        }
        Due.is("firings of the rule", x.rule(0, 11), 1);
        Due.is("firing(0, 2)", x.firing(0, 2), 1);
    }

    private static void theRecordComesBack() {
        RuleDepths x = new RuleDepths();
        Due.rows(x, 0, 5);
        x.addRule(2, 1, 0, 5, 0, 3, 1);
        x.addRule(1, 1, 0, 4, 0, 0, 1);
        x.setCondition(1, 3, 0, 1);
        x.addRule(1, 1, 0, 1, 0, 0, 0);
        x.setCondition(2, 0, 2, 8);
        x.addRule(1, 1, 1, 4, 2, 0, 0);
        x.setCondition(3, 3, 0, 1);
        Due.is("delete", x.delete(4), 2);
        checkRecord(x, "delete", new int[][] {{0, 1, 4}, {0, 2, 5}});
        Due.is("refused on the depth 2", x.update(0, 0, 7), -1005);
        checkRecord(x, "a refused statement", new int[][] {{0, 1, 4}, {0, 2, 5}});
        x.ifUpdated(0, 0, 20, 0);
        checkRecord(x, "a question", new int[][] {{0, 1, 4}, {0, 2, 5}});
        x.keep();
        Due.is("update", x.update(0, 0, 20), 3);
        checkRecord(x, "update", new int[][] {{1, 1, 0}, {3, 1, 0}});
        x.undo();
        checkRecord(x, "undo", new int[][] {{0, 1, 4}, {0, 2, 5}});
        x.update(0, 0, 20);
        x.restore();
        checkRecord(x, "restore", new int[][] {{0, 1, 4}, {0, 2, 5}});
    }

    private static void checkRecord(RuleDepths x, String when, int[][] due) {
        Due.is("recorded after " + when, x.total(9), due.length);
        for (int index = 0; index < due.length; index++) {
            for (int what = 0; what < 3; what++) {
                Due.is("firing(" + index + ", " + what + ") after " + when, x.firing(index, what), due[index][what]);
            }
        }
    }

    private static void keepAndRestore() {
        RuleDepths x = new RuleDepths();
        Due.is("no snapshot", x.restore(), NONE);
        Due.is("keep nothing", x.keep(), 0);
        Due.is("restore nothing", x.restore(), 0);
        Due.is("it is a change", x.total(10), 1);
        Due.rows(x, 1, 3);
        x.addRule(0, 0, 0, 0, 0, 0, 0);
        x.set(0, 2);
        Due.is("keep", x.keep(), 3);
        x.delete(1);
        x.removeRule(0);
        x.set(0, 3);
        Due.is("restore", x.restore(), 3);
        Due.is("row 1", x.field(1, 0), 0);
        Due.is("rules", x.total(1), 1);
        Due.is("depth", x.total(3), 2);
        x.update(1, 0, 5);
        x.insert(40, 0, 0, 0);
        Due.is("the snapshot stays", x.restore(), 3);
        Due.is("zero", x.field(1, 0), 0);
        Due.is("states", x.total(10), 4);
        Due.is("undo of restore", x.undo(), 3);
        Due.is("zero", x.field(1, 0), 5);
        Due.is("rows", x.total(0), 4);
        Due.is("keep, in place of the earlier one", x.keep(), 4);
        x.delete(40);
        Due.is("restore", x.restore(), 4);
        Due.is("zero", x.field(1, 0), 5);
    }

    private static void textHistoryAndSnapshotAreNoState() {
        RuleDepths x = new RuleDepths();
        x.keep();
        x.insert(1, 0, 0, 0);
        Due.typed(x, "d1");
        x.undo();
        Due.is("the text stays at an undo", x.total(11), 2);
        x.insert(2, 0, 0, 0);
        x.insert(3, 0, 0, 0);
        x.keep();
        x.undo();
        Due.is("the snapshot stays at an undo", x.restore(), 2);
        Due.is("states", x.total(10), 2);
        Due.is("the text stays at a restore", x.total(11), 2);
        Due.is("firing(-1, 0)", x.firing(-1, 0), OUT_OF_RANGE);
    }
}
