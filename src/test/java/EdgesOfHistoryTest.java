import java.util.function.Consumer;
import java.util.function.ToIntFunction;

/** The boundary cases of the terms HISTORY and ERRORS, of promises 1 and 13 to 15, and of the 512 calls. */
public final class EdgesOfHistoryTest {
    private static final int UNKNOWN = -1001;
    private static final int OUT_OF_RANGE = -1002;
    private static final int FULL = -1003;
    private static final int DUPLICATE = -1004;
    private static final int REFUSED = -1005;
    private static final int NONE = -1006;

    public static void main(String[] args) {
        newObject();
        fourStates();
        eachChangeRecordsOneState();
        noChangeRecordsNothing();
        oldestIsDropped();
        undoOfNothing();
        undoIsNoChange();
        noSnapshot();
        snapshotTakesThePlace();
        snapshotStays();
        restoreIsAChange();
        stateIsEverythingElse();
        stateOfTheFullTable();
        stateOfTheFullRecord();
        constants();
        leastValueIsNoError();
        lastOfTheCalls();
        callsBehindTheLast();
        Due.end();
    }

    private static void newObject() {
        Due.sentence("Promise 1", "Creates an empty table without rules.");
        RuleDepths x = new RuleDepths();
        for (int what = 0; what < 12; what++) {
            Due.is("total(" + what + ")", x.total(what), what == 3 ? 4 : 0);
        }
        Due.is("keyAt(0)", x.keyAt(0), NONE);
        for (int key : new int[] {0, 50, 99}) {
            Due.is("field(" + key + ", 0)", x.field(key, 0), UNKNOWN);
            Due.is("update", x.update(key, 0, 0), UNKNOWN);
            Due.is("delete", x.delete(key), UNKNOWN);
            Due.is("ifUpdated", x.ifUpdated(key, 0, 0, 0), UNKNOWN);
            Due.is("ifDeleted", x.ifDeleted(key, 0), UNKNOWN);
            Due.is("depthFor", x.depthFor(key, 0, 0), UNKNOWN);
        }
        Due.is("rule(0, 0)", x.rule(0, 0), UNKNOWN);
        Due.is("setCondition", x.setCondition(0, 0, 0, 0), UNKNOWN);
        Due.is("put", x.put(0, true), UNKNOWN);
        Due.is("removeRule", x.removeRule(0), UNKNOWN);
        for (int group = 0; group < 6; group++) {
            Due.is("order of the group " + group, x.order(group / 2, group % 2, 0), NONE);
        }
        Due.is("firing(0, 0)", x.firing(0, 0), NONE);
        Due.is("undo", x.undo(), NONE);
        Due.is("restore", x.restore(), NONE);
        Due.is("clearText", x.clearText(), 0);
        Due.is("perform", x.perform(), -2000);
        Due.is("keep", x.keep(), 0);
    }

    private static void fourStates() {
        Due.sentence("HISTORY", "A history of at most 4 states is kept.");
        RuleDepths x = new RuleDepths();
        for (int changes = 0; changes <= 6; changes++) {
            Due.is("states after " + changes + " changes", x.total(10), Math.min(4, changes));
            Due.is("insert", x.insert(changes, 0, 0, 0), 1);
        }
        for (int left = 3; left >= 0; left--) {
            Due.is("undo", x.undo(), left);
            Due.is("states", x.total(10), left);
            Due.is("rows", x.total(0), 3 + left);
        }
        Due.is("no fifth undo", x.undo(), NONE);
        Due.is("rows", x.total(0), 3);
        Due.is("three changes", x.insert(50, 0, 0, 0) + x.update(50, 0, 1) + x.update(50, 0, 2), 3);
        Due.is("states", x.total(10), 3);
        Due.is("the fourth", x.update(50, 0, 3), 1);
        Due.is("states", x.total(10), 4);
        Due.is("the fifth", x.update(50, 0, 4), 1);
        Due.is("states", x.total(10), 4);
        Due.is("undo", x.undo(), 3);
        Due.is("the latest state comes first", x.field(50, 0), 3);
    }

    /** An object with a row 1, a rule 0, a snapshot, a text, and one state in its history. */
    private static RuleDepths made() {
        RuleDepths x = new RuleDepths();
        x.addRule(1, 0, 0, 0, 2, 0, 0);
        x.insert(1, 0, 0, 0);
        x.undo();
        x.keep();
        Due.typed(x, "i1=0,0,0;d1");
        Due.is("states", x.total(10), 1);
        return x;
    }

    private static void eachChange(String name, ToIntFunction<RuleDepths> change, int due) {
        RuleDepths x = made();
        x.insert(1, 0, 0, 0);
        Due.is(name, change.applyAsInt(x), due);
        Due.is("states after " + name, x.total(10), 3);
        Due.is("undo of " + name, x.undo(), 2);
        Due.is("it brings back the row", x.field(1, 0), 0);
        Due.is("it brings back the rules", x.total(1), 1);
        Due.is("it brings back the rule's condition", x.rule(0, 8), 4);
        Due.is("it brings back that it is on", x.total(2), 1);
        Due.is("it brings back the settings", 10 * x.total(3) + x.total(4), 40);
        Due.is("it brings back the statements", x.total(5), 1);
        Due.is("undo of the insert", x.undo(), 1);
        Due.is("rows", x.total(0), 0);
    }

    private static void eachChangeRecordsOneState() {
        Due.sentence("HISTORY",
                "Each call of a method that is described as a change, and that returns neither an error nor NONE, "
                + "records the state before it");
        eachChange("addRule", x -> x.addRule(0, 0, 0, 0, 0, 0, 0), 1);
        eachChange("setCondition", x -> x.setCondition(0, 0, 2, 9), 0);
        eachChange("setCondition as it is", x -> x.setCondition(0, 3, 4, 0), 0);
        eachChange("put", x -> x.put(0, false), 0);
        eachChange("removeRule", x -> x.removeRule(0), 0);
        eachChange("set of the depth", x -> x.set(0, 8), 4);
        eachChange("set of guarding", x -> x.set(1, 1), 0);
        eachChange("insert", x -> x.insert(2, 0, 0, 0), 1);
        eachChange("update", x -> x.update(1, 0, 5), 1);
        eachChange("delete", x -> x.delete(1), 1);
        eachChange("perform", x -> Due.performed(x, "d1;i1=3,0,0"), 2);
        eachChange("perform of nothing", x -> Due.performed(x, "u1.0=0"), 1);
        eachChange("restore", RuleDepths::restore, 0);
    }

    private static void noChange(String name, Consumer<RuleDepths> calls) {
        RuleDepths x = made();
        calls.accept(x);
        Due.is("states after " + name, x.total(10), 1);
    }

    private static void noChangeRecordsNothing() {
        noChange("type", x -> x.type('d'));
        noChange("clearText", RuleDepths::clearText);
        noChange("keep", RuleDepths::keep);
        noChange("an error of addRule", x -> x.addRule(0, 0, 0, 3, 0, 0, 0));
        noChange("an error of setCondition", x -> x.setCondition(1, 0, 0, 0));
        noChange("an error of setCondition", x -> x.setCondition(0, 4, 0, 0));
        noChange("NONE of put", x -> x.put(0, true));
        noChange("an error of put", x -> x.put(1, false));
        noChange("an error of removeRule", x -> x.removeRule(1));
        noChange("NONE of set", x -> x.set(0, 4));
        noChange("an error of set", x -> x.set(0, 9));
        noChange("an error of set", x -> x.set(2, 0));
        noChange("an error of insert", x -> x.insert(100, 0, 0, 0));
        noChange("an error of update", x -> x.update(1, 0, 0));
        noChange("an error of delete", x -> x.delete(1));
        noChange("a fault of perform", x -> Due.performed(x, "d1;"));
        noChange("an error of perform", x -> Due.performed(x, "i1=0,0,0;d2"));
        noChange("what there is", x -> x.field(1, 0));
        noChange("questions", x -> x.ifInserted(1, 0, 0, 0, 0));
        RuleDepths x = new RuleDepths();
        x.insert(1, 0, 0, 0);
        Due.is("NONE of update", x.update(1, 0, 0), NONE);
        Due.is("states", x.total(10), 1);
        x.addRule(2, 1, 0, 1, 0, 0, 0);
        Due.is("REFUSED of delete", x.delete(1), REFUSED);
        Due.is("states", x.total(10), 2);
        Due.is("ifUpdated", x.ifUpdated(1, 0, 5, 0), 0);
        Due.is("ifDeleted", x.ifDeleted(1, 0), 1);
        Due.is("depthFor", x.depthFor(1, 0, 5), 1);
        Due.is("states", x.total(10), 2);
    }

    private static void oldestIsDropped() {
        Due.sentence("HISTORY", "if there are 4 already, the oldest one is dropped");
        RuleDepths x = new RuleDepths();
        x.insert(0, 0, 0, 0);
        for (int value = 1; value <= 30; value++) {
            Due.is("update", x.update(0, 0, value), 1);
            Due.is("states", x.total(10), Math.min(4, value + 1));
        }
        for (int value = 29; value >= 26; value--) {
            Due.is("undo", x.undo(), value - 26);
            Due.is("value", x.field(0, 0), value);
        }
        Due.is("the state with 25 was dropped", x.undo(), NONE);
        Due.is("value", x.field(0, 0), 26);
        RuleDepths y = new RuleDepths();
        y.insert(0, 0, 0, 0);
        for (int value = 1; value <= 3; value++) {
            y.update(0, 0, value);
        }
        Due.is("with four states a refused call drops none", y.update(0, 0, 1000), OUT_OF_RANGE);
        Due.is("nor does one that is nothing", y.update(0, 0, 3), NONE);
        for (int left = 3; left >= 0; left--) {
            Due.is("undo", y.undo(), left);
        }
        Due.is("rows of the oldest state", y.total(0), 0);
    }

    private static void undoOfNothing() {
        Due.sentence("Promise 13", "Returns how many states are left; NONE if the history is empty.");
        RuleDepths x = new RuleDepths();
        Due.is("undo", x.undo(), NONE);
        Due.is("undo again", x.undo(), NONE);
        Due.is("states", x.total(10), 0);
        x.insert(1, 0, 0, 0);
        Due.is("undo of the only one", x.undo(), 0);
        Due.is("rows", x.total(0), 0);
        Due.is("undo", x.undo(), NONE);
        Due.is("the insert is possible again", x.insert(1, 0, 0, 0), 1);
    }

    private static void undoIsNoChange() {
        Due.sentence("Promise 13", "Restores the latest state of the history, and removes it from there.");
        RuleDepths x = new RuleDepths();
        x.insert(1, 1, 0, 0);
        x.update(1, 0, 2);
        x.update(1, 0, 3);
        Due.is("undo", x.undo(), 2);
        Due.is("value", x.field(1, 0), 2);
        Due.is("a second undo goes further back", x.undo(), 1);
        Due.is("value", x.field(1, 0), 1);
        x.update(1, 0, 9);
        Due.is("states", x.total(10), 2);
        Due.is("undo", x.undo(), 1);
        Due.is("value", x.field(1, 0), 1);
        Due.is("undo", x.undo(), 0);
        Due.is("rows", x.total(0), 0);
    }

    private static void noSnapshot() {
        Due.sentence("HISTORY", "There is one snapshot, empty at first.");
        RuleDepths x = new RuleDepths();
        Due.is("restore", x.restore(), NONE);
        x.insert(1, 0, 0, 0);
        Due.is("restore", x.restore(), NONE);
        Due.is("rows", x.total(0), 1);
        Due.is("states", x.total(10), 1);
        x.undo();
        Due.is("restore after an undo", x.restore(), NONE);
        Due.sentence("Promise 14", "Returns how many rows there are.");
        Due.is("keep of the empty table", x.keep(), 0);
        Due.is("it is one all the same", x.restore(), 0);
        Due.is("states", x.total(10), 1);
        Due.rows(x, 1, 20);
        Due.is("keep of the full table", x.keep(), 20);
    }

    private static void snapshotTakesThePlace() {
        Due.sentence("Promise 14", "Takes a snapshot of the state, in place of an earlier one.");
        RuleDepths x = new RuleDepths();
        Due.rows(x, 0, 2);
        Due.is("keep", x.keep(), 3);
        Due.rows(x, 3, 4);
        x.update(0, 0, 7);
        Due.is("keep", x.keep(), 5);
        Due.is("keep again", x.keep(), 5);
        x.delete(0);
        Due.is("restore brings the later one", x.restore(), 5);
        Due.is("value", x.field(0, 0), 7);
        x.delete(4);
        x.delete(3);
        Due.is("keep of less", x.keep(), 3);
        Due.rows(x, 50, 60);
        Due.is("restore", x.restore(), 3);
        Due.is("no row 3", x.field(3, 0), UNKNOWN);
        Due.is("no row 50", x.field(50, 0), UNKNOWN);
    }

    private static void snapshotStays() {
        Due.sentence("Promise 15",
                "Restores the state of the snapshot, which stays. .. Returns how many rows there are then; NONE if "
                + "there is no snapshot.");
        RuleDepths x = new RuleDepths();
        x.insert(1, 5, 0, 0);
        x.keep();
        for (int times = 0; times < 3; times++) {
            x.update(1, 0, 100 + times);
            Due.rows(x, 10, 12);
            Due.is("restore", x.restore(), 1);
            Due.is("value", x.field(1, 0), 5);
            Due.is("rows", x.total(0), 1);
            Due.is("restore at once", x.restore(), 1);
        }
        Due.is("undo does not take it", x.undo(), 3);
        Due.is("restore", x.restore(), 1);
    }

    private static void restoreIsAChange() {
        Due.sentence("Promise 15", "This is a change.");
        RuleDepths x = new RuleDepths();
        x.keep();
        Due.is("a restore that changes nothing", x.restore(), 0);
        Due.is("states", x.total(10), 1);
        Due.rows(x, 0, 1);
        Due.is("restore", x.restore(), 0);
        Due.is("states", x.total(10), 4);
        Due.is("restore with four states", x.restore(), 0);
        Due.is("states", x.total(10), 4);
        Due.is("undo", x.undo(), 3);
        Due.is("rows", x.total(0), 0);
        Due.is("undo of the first restore", x.undo(), 2);
        Due.is("rows", x.total(0), 2);
    }

    private static void stateIsEverythingElse() {
        Due.sentence("HISTORY", "The state is everything except the text, the history and the snapshot.");
        RuleDepths x = new RuleDepths();
        x.addRule(0, 1, 1, 3, 0, 3, 1);
        x.setCondition(0, 3, 0, 2);
        x.insert(1, 3, 4, 5);
        x.set(0, 7);
        x.set(1, 1);
        Due.typed(x, "d");
        x.keep();
        Due.is("the text stays at a keep", x.total(11), 1);
        Due.is("it goes on from there", x.type('1'), 2);
        int[] totals = {2, 1, 1, 7, 1, 1, 2, 1, 2, 1};
        x.addRule(2, 0, 0, 0, 0, 0, 0);
        x.put(0, false);
        x.perform();
        x.set(0, 1);
        Due.typed(x, ";");
        Due.is("restore", x.restore(), 2);
        for (int what = 0; what < 10; what++) {
            Due.is("total(" + what + ")", x.total(what), totals[what]);
        }
        Due.is("states: the history is not restored", x.total(10), 4);
        Due.is("the text is not", x.total(11), 3);
        Due.is("firings of the rule", x.rule(0, 11), 1);
        Due.is("the rule is on", x.rule(0, 10), 1);
        Due.is("the rule's condition", x.rule(0, 8), 0);
        Due.is("the record's rule", x.firing(0, 0), 0);
        Due.is("the record's depth", x.firing(0, 1), 1);
        Due.is("the record's key", x.firing(0, 2), 1);
        Due.is("row 2", x.field(2, 2), 5);
        Due.is("undo of the restore", x.undo(), 3);
        Due.is("greatest depth", x.total(3), 1);
        Due.is("rules", x.total(1), 2);
        Due.is("the record of the delete", x.firing(0, 0), 1);
        Due.is("the text stays at an undo", x.total(11), 3);
        Due.is("undo of the set", x.undo(), 2);
        Due.is("undo of the perform", x.undo(), 1);
        Due.is("the record of the insert", x.firing(0, 0), 0);
        Due.is("statements", x.total(5), 1);
        Due.is("the snapshot stays at an undo", x.restore(), 2);
    }

    private static void stateOfTheFullTable() {
        RuleDepths x = new RuleDepths();
        for (int key = 0; key < 20; key++) {
            x.insert(99 - key, key, -key, 999);
        }
        for (int rule = 0; rule < 12; rule++) {
            x.addRule(1, 0, 99 - rule, 0, 1, 1, rule);
        }
        Due.is("keep", x.keep(), 20);
        for (int key = 0; key < 20; key++) {
            x.delete(99 - key);
        }
        for (int rule = 0; rule < 12; rule++) {
            x.removeRule(0);
        }
        Due.is("rows", x.total(0), 0);
        Due.is("rules", x.total(1), 0);
        Due.is("restore", x.restore(), 20);
        for (int rank = 0; rank < 20; rank++) {
            Due.is("keyAt(" + rank + ")", x.keyAt(rank), 80 + rank);
            Due.is("one of it", x.field(80 + rank, 1), rank - 19);
        }
        for (int place = 0; place < 12; place++) {
            Due.is("place " + place, x.order(1, 0, place), 11 - place);
            Due.is("c of the rule " + place, x.rule(place, 6), place);
        }
        Due.is("full", x.insert(0, 0, 0, 0), FULL);
        Due.is("undo", x.undo(), 3);
        Due.is("rows", x.total(0), 0);
    }

    private static void stateOfTheFullRecord() {
        RuleDepths x = new RuleDepths();
        for (int key = 0; key < 6; key++) {
            x.insert(key, 0, 0, 0);
        }
        for (int rule = 0; rule < 11; rule++) {
            x.addRule(1, 0, 0, 0, 1, 0, rule);
        }
        x.addRule(1, 1, 0, 4, 0, 0, 1);
        x.set(0, 8);
        // 12 firings for each of the rows 0 to 5.
        Due.is("update", x.update(0, 0, 5), 6);
        Due.is("firings", x.total(7), 72);
        fullRecord("the update", x);
        x.keep();
        x.delete(5);
        Due.is("the record of the delete", x.total(9), 0);
        x.undo();
        fullRecord("an undo", x);
        x.update(5, 0, 1);
        Due.is("the record of the short update", x.total(9), 12);
        Due.is("it ends there", x.firing(12, 0), NONE);
        x.restore();
        fullRecord("a restore", x);
    }

    private static void fullRecord(String when, RuleDepths x) {
        Due.is("recorded after " + when, x.total(9), 60);
        for (int index : new int[] {0, 11, 12, 35, 36, 58, 59}) {
            Due.is("rule of " + index + " after " + when, x.firing(index, 0), index % 12);
            Due.is("depth of " + index + " after " + when, x.firing(index, 1), index / 12 + 1);
            Due.is("key of " + index + " after " + when, x.firing(index, 2), index / 12);
        }
        Due.is("behind the last after " + when, x.firing(60, 0), NONE);
    }

    private static void constants() {
        Due.sentence("ERRORS", "Errors are reported by the constants below; they are below -1000");
        Due.is("UNKNOWN", RuleDepths.UNKNOWN, UNKNOWN);
        Due.is("OUT_OF_RANGE", RuleDepths.OUT_OF_RANGE, OUT_OF_RANGE);
        Due.is("FULL", RuleDepths.FULL, FULL);
        Due.is("DUPLICATE", RuleDepths.DUPLICATE, DUPLICATE);
        Due.is("REFUSED", RuleDepths.REFUSED, REFUSED);
        Due.is("NONE", RuleDepths.NONE, NONE);
    }

    private static void leastValueIsNoError() {
        Due.sentence("ERRORS", "they are below -1000, because values can be negative");
        RuleDepths x = new RuleDepths();
        x.insert(1, -999, -999, -999);
        x.addRule(1, 0, 0, 0, 0, 0, -999);
        x.setCondition(0, 1, 2, -999);
        Due.is("field", x.field(1, 0), -999);
        Due.is("c", x.rule(0, 6), -999);
        Due.is("number", x.rule(0, 9), -999);
        Due.is("an update to it", x.update(1, 2, -998) + x.update(1, 2, -999), 2);
        Due.is("it is nothing then", x.update(1, 2, -999), NONE);
        x.delete(1);
        Due.is("unknown then", x.field(1, 0), UNKNOWN);
    }

    /** An update and an undo for each two calls; so the counts stay, and the history goes up and down. */
    private static void lastOfTheCalls() {
        Due.sentence("What it is", "An object is used for at most 512 calls after it has been made");
        RuleDepths x = new RuleDepths();
        x.insert(0, 0, 0, 0);
        for (int call = 2; call < 511; call++) {
            Due.is("update, call " + call, x.update(0, 0, call), 1);
        }
        Due.is("statements, call 511", x.total(5), 510);
        Due.is("value, call 512", x.field(0, 0), 510);
        RuleDepths y = new RuleDepths();
        for (int call = 1; call < 512; call += 2) {
            Due.is("insert, call " + call, y.insert(call % 100, 0, 0, 0), 1);
            Due.is("undo, call " + (call + 1), y.undo(), 0);
        }
        RuleDepths z = new RuleDepths();
        Due.rows(z, 0, 2);
        for (int rule = 0; rule < 11; rule++) {
            z.addRule(1, 1, 5, 4, 0, 0, rule + 1);
            z.setCondition(rule, 3, 1, rule < 8 ? 1 : 0);
        }
        for (int call = 26; call < 508; call++) {
            Due.is("update, call " + call, z.update(0, 0, call % 2 == 0 ? 100 : 200), 100);
        }
        Due.is("operations, call 508", z.total(6), 48203);
        Due.is("firings, call 509", z.total(7), 482 * 99);
        Due.is("firings of the rule 0, call 510", z.rule(0, 11), 482 * 12);
        Due.is("firings of the rule 10, call 511", z.rule(10, 11), 482);
        Due.is("undo, call 512", z.undo(), 3);
    }

    /** What later calls answer is free, but none may throw or fail to end. */
    private static void callsBehindTheLast() {
        Due.sentence("What it is", "what later calls answer is free.");
        RuleDepths x = new RuleDepths();
        int answers = 0;
        for (int call = 0; call < 5000; call++) {
            x.type("iud=.,;-019".charAt(call * 7 % 11));
            x.insert(call % 100, 0, 0, 0);
            x.addRule(call % 3, 1, call % 100, 3 + call % 3, call % 3, call % 4, call % 7 - 3);
            x.update(call % 100, call % 3, call % 999);
            x.perform();
            x.keep();
            x.restore();
            answers += x.undo() >= 0 ? 1 : 0;
        }
        Due.is("undos", answers, 5000);
    }
}
