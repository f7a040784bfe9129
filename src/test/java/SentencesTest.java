import java.nio.file.Files;
import java.nio.file.Path;
import java.util.function.ToIntFunction;

/**
 * The sentences of the document that name no boundary case: what the table is, what each call does, what each constant
 * means, under which heading each call stands. Run from the project's root.
 */
public final class SentencesTest {
    private static final int INSERT = 0;
    private static final int UPDATE = 1;
    private static final int DELETE = 2;

    private static final int BEFORE = 0;
    private static final int AFTER = 1;

    private static final int SET = 0;
    private static final int REFUSE = 1;
    private static final int SKIP = 2;
    private static final int CAUSE_INSERT = 3;
    private static final int CAUSE_UPDATE = 4;
    private static final int CAUSE_DELETE = 5;

    public static void main(String[] args) throws Exception {
        rulesFire();
        rulesThatDoNotFire();
        refusedAsAWhole();
        textsCountsAndStates();
        partsOfARow();
        partsOfARule();
        fieldBecomesTheValue();
        stepsInTheirOrder();
        otherwiseAnOperation();
        unknown();
        outOfRange();
        full();
        duplicate();
        refused();
        none();
        headings();
        changesOfRules();
        changesOfRows();
        appends();
        tellsOfRowsAndRules();
        tellsOfFiringsAndTotals();
        questions();
        Due.end();
    }

    private static void record(String name, RuleDepths x, int[]... due) {
        Due.is(name + ", recorded", x.total(9), due.length);
        for (int index = 0; index < due.length; index++) {
            for (int what = 0; what < 3; what++) {
                Due.is(name + ", firing(" + index + ", " + what + ")", x.firing(index, what), due[index][what]);
            }
        }
    }

    // ---- What it is

    private static void rulesFire() {
        Due.sentence("What it is",
                "A table whose rules (triggers) fire on inserts, updates and deletes: rules before and after an "
                + "operation, in the order of their ranks, with conditions, rules that change the row, refuse or skip "
                + "the operation, or operate on other rows, by which further rules fire, level by level, up to a "
                + "greatest depth");
        RuleDepths x = new RuleDepths();
        x.addRule(INSERT, AFTER, 0, CAUSE_INSERT, 0, 3, 1);
        x.setCondition(0, 3, 0, 12);
        x.addRule(INSERT, BEFORE, 8, SET, 1, 3, 100);
        x.addRule(INSERT, BEFORE, 2, SET, 0, 0, 5);
        x.addRule(UPDATE, AFTER, 0, CAUSE_DELETE, 0, 3, 2);
        x.addRule(DELETE, BEFORE, 0, SKIP, 0, 0, 0);
        x.setCondition(4, 0, 5, 20);
        x.addRule(DELETE, AFTER, 0, REFUSE, 0, 0, 0);
        x.setCondition(5, 3, 2, 11);
        Due.is("an insert that goes on to the depth 3", x.insert(10, 1, 1, 1), 3);
        record("insert", x, new int[] {2, 1, 10}, new int[] {1, 1, 10}, new int[] {0, 1, 10}, new int[] {2, 2, 11},
                new int[] {1, 2, 11}, new int[] {0, 2, 11}, new int[] {2, 3, 12}, new int[] {1, 3, 12});
        int[][] rows = {{10, 6, 110, 1}, {11, 11, 111, 1}, {12, 16, 112, 1}};
        for (int[] row : rows) {
            for (int field = 0; field < 3; field++) {
                Due.is("field " + field + " of " + row[0], x.field(row[0], field), row[1 + field]);
            }
        }
        Due.is("an update, and a delete of another row", x.update(10, 2, 50), 2);
        record("update", x, new int[] {3, 1, 10});
        Due.is("rows", x.total(0), 2);
        Due.is("a delete that is refused", x.delete(11), RuleDepths.REFUSED);
        Due.is("update", x.update(11, 0, 21), 1);
        Due.is("a delete that is skipped", x.delete(11), 1);
        Due.is("the row", x.field(11, 0), 21);
        Due.is("delete", x.delete(10), 1);
        x.set(0, 2);
        Due.is("beyond the greatest depth", x.insert(9, 0, 0, 0), RuleDepths.REFUSED);
        x.set(0, 3);
        Due.is("up to the row 11, which is there", x.insert(9, 0, 0, 0), 2);
    }

    private static void rulesThatDoNotFire() {
        Due.sentence("What it is", "rules that are off, rules that do not fire within their own firing");
        RuleDepths x = new RuleDepths();
        Due.rows(x, 0, 2);
        x.addRule(UPDATE, AFTER, 0, CAUSE_UPDATE, 0, 0, 1);
        x.addRule(UPDATE, AFTER, 0, CAUSE_DELETE, 0, 3, 0);
        x.put(1, false);
        Due.is("the rule 0 alone", x.update(0, 0, 5), 3);
        record("the rule 0 alone", x, new int[] {0, 1, 0}, new int[] {0, 2, 1}, new int[] {0, 3, 2});
        x.set(1, 1);
        Due.is("not within its own firing", x.update(0, 0, 6), 2);
        record("not within its own firing", x, new int[] {0, 1, 0});
    }

    private static void refusedAsAWhole() {
        Due.sentence("What it is",
                "statements that are refused as a whole and why, a record of firings, what a statement would do");
        RuleDepths x = new RuleDepths();
        Due.rows(x, 0, 2);
        x.addRule(UPDATE, AFTER, 3, CAUSE_UPDATE, 1, 0, 10);
        x.addRule(UPDATE, BEFORE, 3, REFUSE, 0, 0, 0);
        x.setCondition(1, 3, 2, 2);
        Due.is("why it would be refused", x.ifUpdated(0, 0, 7, 0), 1);
        Due.is("by which rule", x.ifUpdated(0, 0, 7, 1), 1);
        Due.is("after so many operations", x.ifUpdated(0, 0, 7, 2), 3);
        Due.is("after so many firings", x.ifUpdated(0, 0, 7, 3), 3);
        Due.is("on the depth", x.ifUpdated(0, 0, 7, 4), 3);
        Due.is("refused", x.update(0, 0, 7), RuleDepths.REFUSED);
        for (int key = 0; key < 3; key++) {
            Due.is("zero of " + key, x.field(key, 0), 0);
            Due.is("one of " + key, x.field(key, 1), 0);
        }
        Due.is("nothing is recorded", x.total(9), 0);
    }

    private static void textsCountsAndStates() {
        Due.sentence("What it is",
                "statements that are read from a text with the places of faults, counts, undo and a snapshot.");
        RuleDepths x = new RuleDepths();
        Due.is("a fault", Due.performed(x, "i7=1,2,3;u7.1=-04"), -2016);
        Due.is("without it", Due.performed(x, "i7=1,2,3;u7.1=-4"), 2);
        Due.is("one", x.field(7, 1), -4);
        Due.is("statements", x.total(5), 2);
        Due.is("keep", x.keep(), 1);
        x.delete(7);
        Due.is("undo", x.undo(), 1);
        Due.is("rows", x.total(0), 1);
        Due.is("undo", x.undo(), 0);
        Due.is("rows", x.total(0), 0);
        Due.is("restore", x.restore(), 1);
        Due.is("two", x.field(7, 2), 3);
    }

    // ---- Terms

    private static void partsOfARow() {
        Due.sentence("ROWS",
                "A row has a key (0 to 99; no two rows have the same key) and three fields 0 to 2 with values from -999 "
                + "to 999.");
        RuleDepths x = new RuleDepths();
        for (int key = 0; key < 100; key += 9) {
            Due.is("insert of " + key, x.insert(key, -key, 10 * key, 999 - key), 1);
        }
        for (int key = 0; key < 100; key++) {
            boolean there = key % 9 == 0;
            Due.is("zero of " + key, x.field(key, 0), there ? -key : RuleDepths.UNKNOWN);
            Due.is("one of " + key, x.field(key, 1), there ? 10 * key : RuleDepths.UNKNOWN);
            Due.is("two of " + key, x.field(key, 2), there ? 999 - key : RuleDepths.UNKNOWN);
        }
    }

    private static void partsOfARule() {
        Due.sentence("RULES",
                "A rule has an event (0 insert, 1 update, 2 delete), a moment (0 before, 1 after), a rank (0 to 99), a "
                + "condition and an action, and it is on (at first) or off.");
        RuleDepths x = new RuleDepths();
        x.addRule(INSERT, BEFORE, 0, SKIP, 0, 0, 0);
        x.addRule(DELETE, AFTER, 61, CAUSE_UPDATE, 1, 2, -30);
        x.setCondition(1, 2, 1, 77);
        int[] parts = {DELETE, AFTER, 61, CAUSE_UPDATE, 1, 2, -30, 2, 1, 77, 1, 0};
        for (int what = 0; what < parts.length; what++) {
            Due.is("rule(1, " + what + ")", x.rule(1, what), parts[what]);
        }
        Due.sentence("RULES", "The rule fires for a row");
        x.setCondition(0, 3, 0, 50);
        for (int key : new int[] {49, 50, 48, 51}) {
            Due.is("insert of " + key, x.insert(key, 0, 0, 0), 1);
            record("insert of " + key, x, key < 50 ? new int[][] {{0, 1, key}} : new int[0][]);
        }
        Due.is("the rows for which it did not fire", x.total(0), 2);
        Due.is("the least key", x.keyAt(0), 50);
    }

    private static void fieldBecomesTheValue() {
        Due.sentence("RULES", "Kinds for the moment before: 0 set: the field a of the row becomes the value");
        RuleDepths x = new RuleDepths();
        x.addRule(INSERT, BEFORE, 0, SET, 0, 1, 3);
        x.addRule(UPDATE, BEFORE, 0, SET, 2, 3, -4);
        Due.is("insert", x.insert(30, 7, 8, 9), 1);
        Due.is("zero, from the field 1", x.field(30, 0), 11);
        Due.is("one", x.field(30, 1), 8);
        Due.is("two", x.field(30, 2), 9);
        Due.is("update of another field", x.update(30, 1, 50), 1);
        Due.is("two, from the key", x.field(30, 2), 26);
        Due.is("one", x.field(30, 1), 50);
        Due.is("zero", x.field(30, 0), 11);
        Due.is("update of the field that is set", x.update(30, 2, 0), 1);
        Due.is("the rule has the last word", x.field(30, 2), 26);
    }

    private static void stepsInTheirOrder() {
        Due.sentence("OPERATIONS", "An operation of a depth d on a row is done in this way:");
        // Each event has a set before (rank 99) and a caused operation after (rank 0).
        RuleDepths x = new RuleDepths();
        Due.rows(x, 0, 1);
        x.addRule(UPDATE, AFTER, 0, CAUSE_DELETE, 0, 0, 0);
        x.addRule(UPDATE, BEFORE, 99, SET, 0, 1, 1);
        x.addRule(DELETE, AFTER, 0, CAUSE_INSERT, 0, 0, 0);
        x.addRule(DELETE, BEFORE, 99, SET, 0, 3, 40);
        x.addRule(INSERT, AFTER, 0, CAUSE_UPDATE, 1, 3, 0);
        x.addRule(INSERT, BEFORE, 99, SET, 2, 0, 2);
        x.setCondition(0, 3, 2, 0);
        // The row 0 gets zero 1 by the rule 1; the rule 0 deletes the row 1, whose image gets zero 41 by the rule 3;
        // the rule 2 inserts 41, whose two becomes 43; the rule 4 would update the row 42, which is not there.
        Due.is("update", x.update(0, 0, 500), 3);
        record("update", x, new int[] {1, 1, 0}, new int[] {0, 1, 0}, new int[] {3, 2, 1}, new int[] {2, 2, 1},
                new int[] {5, 3, 41}, new int[] {4, 3, 41});
        int[][] rows = {{0, 1, 0, 0}, {41, 41, 0, 43}};
        for (int[] row : rows) {
            for (int field = 0; field < 3; field++) {
                Due.is("field " + field + " of " + row[0], x.field(row[0], field), row[1 + field]);
            }
        }
        Due.is("rows", x.total(0), 2);
    }

    private static void otherwiseAnOperation() {
        Due.sentence("OPERATIONS", "Otherwise, if the statement has 100 operations already, it is refused (reason 3)");
        RuleDepths x = new RuleDepths();
        Due.rows(x, 0, 2);
        for (int rule = 0; rule < 12; rule++) {
            x.addRule(UPDATE, AFTER, 5, CAUSE_UPDATE, 0, 0, rule + 1);
            x.setCondition(rule, 3, 1, 1);
        }
        // 1 + 12 + 144 operations would be needed: the 101st one is the 8th rule's, within the 8th rule's.
        Due.is("reason", x.ifUpdated(0, 0, 100, 0), 3);
        Due.is("operations", x.ifUpdated(0, 0, 100, 2), 100);
        Due.is("rule", x.ifUpdated(0, 0, 100, 1), 7);
        Due.is("refused", x.update(0, 0, 100), RuleDepths.REFUSED);
        Due.is("from the row 1 there are few", x.update(1, 0, 100), 13);
        Due.is("from the row 2 there is one", x.update(2, 0, 100), 1);
    }

    // ---- the constants

    private static void unknown() {
        Due.sentence("ERRORS", "The constants: UNKNOWN = -1001: There is no such row, rule or setting.");
        RuleDepths x = new RuleDepths();
        x.insert(5, 0, 0, 0);
        x.addRule(INSERT, BEFORE, 0, SET, 0, 0, 0);
        int[] answers = {x.update(6, 0, 1), x.delete(6), x.field(6, 0), x.ifUpdated(6, 0, 1, 0), x.ifDeleted(6, 0),
            x.depthFor(6, 0, 1), x.setCondition(1, 0, 0, 0), x.put(1, false), x.removeRule(1), x.rule(1, 0),
            x.set(2, 0), Due.performed(x, "d6"), Due.performed(x, "u6.0=1")};
        for (int answer : answers) {
            Due.is("UNKNOWN", answer, RuleDepths.UNKNOWN);
        }
        Due.is("its number", RuleDepths.UNKNOWN, -1001);
    }

    private static void outOfRange() {
        Due.sentence("ERRORS", "OUT_OF_RANGE = -1002: Another argument is out of its range.");
        RuleDepths x = new RuleDepths();
        x.insert(5, 0, 0, 0);
        x.addRule(INSERT, BEFORE, 0, SET, 0, 0, 0);
        int[] answers = {x.addRule(0, 0, 0, 4, 0, 0, 0), x.setCondition(0, 0, 6, 0), x.set(0, 0), x.insert(100, 0, 0, 0),
            x.update(5, 0, 1000), x.field(5, 3), x.keyAt(-1), x.rule(0, 12), x.order(3, 0, 0), x.firing(0, 3),
            x.total(12), x.ifInserted(0, 0, 0, 0, 5), x.ifUpdated(5, 0, 1, 5), x.ifDeleted(5, 5),
            x.depthFor(5, 0, -1000)};
        for (int answer : answers) {
            Due.is("OUT_OF_RANGE", answer, RuleDepths.OUT_OF_RANGE);
        }
        Due.is("its number", RuleDepths.OUT_OF_RANGE, -1002);
    }

    private static void full() {
        Due.sentence("ERRORS", "FULL = -1003: There is no more room.");
        RuleDepths x = new RuleDepths();
        Due.rows(x, 0, 19);
        for (int rule = 0; rule < 12; rule++) {
            x.addRule(INSERT, BEFORE, 0, SET, 0, 0, 0);
        }
        Due.is("of rows", x.insert(20, 0, 0, 0), RuleDepths.FULL);
        Due.is("of rows, asked for", x.ifInserted(20, 0, 0, 0, 0), RuleDepths.FULL);
        Due.is("of rows, by a text", Due.performed(x, "i20=0,0,0"), RuleDepths.FULL);
        Due.is("of rules", x.addRule(INSERT, BEFORE, 0, SET, 0, 0, 0), RuleDepths.FULL);
        while (x.total(11) < 80) {
            x.type('d');
        }
        Due.is("of characters", x.type('d'), RuleDepths.FULL);
        Due.is("its number", RuleDepths.FULL, -1003);
    }

    private static void duplicate() {
        Due.sentence("ERRORS", "DUPLICATE = -1004: There is a row with this key already.");
        RuleDepths x = new RuleDepths();
        x.insert(5, 0, 0, 0);
        Due.is("insert", x.insert(5, 1, 1, 1), RuleDepths.DUPLICATE);
        Due.is("ifInserted", x.ifInserted(5, 1, 1, 1, 0), RuleDepths.DUPLICATE);
        Due.is("perform", Due.performed(x, "i5=1,1,1"), RuleDepths.DUPLICATE);
        Due.is("its number", RuleDepths.DUPLICATE, -1004);
    }

    private static void refused() {
        Due.sentence("ERRORS", "REFUSED = -1005: The statement is refused.");
        RuleDepths x = new RuleDepths();
        x.insert(5, 0, 0, 0);
        for (int event = 0; event < 3; event++) {
            x.addRule(event, event % 2, 0, REFUSE, 0, 0, 0);
        }
        Due.is("insert", x.insert(6, 0, 0, 0), RuleDepths.REFUSED);
        Due.is("update", x.update(5, 0, 1), RuleDepths.REFUSED);
        Due.is("delete", x.delete(5), RuleDepths.REFUSED);
        Due.is("perform", Due.performed(x, "d5"), RuleDepths.REFUSED);
        Due.is("its number", RuleDepths.REFUSED, -1005);
    }

    private static void none() {
        Due.sentence("ERRORS", "NONE = -1006: There is no such thing; this is not an error.");
        RuleDepths x = new RuleDepths();
        int[] answers = {x.undo(), x.restore(), x.keyAt(0), x.order(0, 0, 0), x.firing(0, 0), x.set(0, 4)};
        for (int answer : answers) {
            Due.is("NONE", answer, RuleDepths.NONE);
        }
        x.insert(5, 0, 0, 0);
        x.addRule(UPDATE, BEFORE, 0, REFUSE, 0, 0, 0);
        int[] others = {x.put(0, true), x.update(5, 0, 0), x.ifUpdated(5, 0, 0, 0), x.depthFor(5, 0, 0),
            x.ifDeleted(5, 1), x.depthFor(5, 0, 1)};
        for (int answer : others) {
            Due.is("NONE", answer, RuleDepths.NONE);
        }
        Due.is("perform goes on behind it", Due.performed(x, "u5.0=0;d5"), 2);
        Due.is("its number", RuleDepths.NONE, -1006);
    }

    // ---- the headings

    private static String source;

    /** The calls stand in the source behind their heading, and ahead of the next one. */
    private static void heading(String name, String next, String... calls) {
        int begin = source.indexOf("// ---- " + name + "\n");
        int end = source.indexOf("// ---- " + next + "\n");
        Due.holds("the heading " + name, begin >= 0 && end > begin);
        for (String call : calls) {
            int place = source.indexOf("public int " + call + "(");
            Due.holds(call + " stands under " + name, place > begin && place < end);
        }
    }

    private static void headings() throws Exception {
        source = Files.readString(Path.of("src/main/java/RuleDepths.java"));
        Due.sentence("ERRORS",
                "Ahead of the calls addRule, setCondition, put, removeRule, set the interface says: ---- rules, "
                + "settings.");
        heading("rules, settings", "statements", "addRule", "setCondition", "put", "removeRule", "set");
        Due.sentence("ERRORS", "Ahead of the calls insert, update, delete the interface says: ---- statements.");
        heading("statements", "texts", "insert", "update", "delete");
        Due.sentence("ERRORS", "Ahead of the calls type, clearText, perform the interface says: ---- texts.");
        heading("texts", "history", "type", "clearText", "perform");
        Due.sentence("ERRORS", "Ahead of the calls undo, keep, restore the interface says: ---- history.");
        heading("history", "what there is", "undo", "keep", "restore");
        Due.sentence("ERRORS",
                "Ahead of the calls field, keyAt, rule, order, firing, total the interface says: ---- what there is.");
        heading("what there is", "what would be; nothing changes", "field", "keyAt", "rule", "order", "firing", "total");
        Due.sentence("ERRORS",
                "Ahead of the calls ifInserted, ifUpdated, ifDeleted, depthFor the interface says: ---- what would be; "
                + "nothing changes.");
        heading("what would be; nothing changes", "helpers of the calls", "ifInserted", "ifUpdated", "ifDeleted",
                "depthFor");
    }

    // ---- the promises

    /** An object with rows, rules, settings, counts, a record, a text, a snapshot, and two states in its history. */
    private static void made(RuleDepths x) {
        x.addRule(UPDATE, BEFORE, 4, SET, 2, 3, 0);
        x.addRule(INSERT, AFTER, 3, CAUSE_INSERT, 0, 3, 1);
        x.setCondition(1, 3, 0, 6);
        x.addRule(DELETE, AFTER, 9, CAUSE_DELETE, 0, 3, 1);
        x.put(2, false);
        x.insert(4, 1, 2, 3);
        x.keep();
        x.set(0, 6);
        x.update(5, 1, 8);
        Due.typed(x, "d5;u4.0=7");
        x.insert(90, 0, 0, 0);
        x.delete(90);
        x.undo();
        x.undo();
        Due.is("states", x.total(10), 2);
    }

    /** The call records one state, and with an undo all is as it was. */
    private static void change(String name, ToIntFunction<RuleDepths> call, int due) {
        Twins.unchanged(name + " and undo", SentencesTest::made, x -> {
            int answer = call.applyAsInt(x);
            Due.is("states after " + name, x.total(10), 3);
            Due.is("undo of " + name, x.undo(), 2);
            return answer;
        }, due);
    }

    private static RuleDepths object() {
        RuleDepths x = new RuleDepths();
        made(x);
        return x;
    }

    private static void changesOfRules() {
        Due.sentence("Promise 2",
                "Adds a rule, without a condition (a condition that always holds: the key is at least 0). This is a "
                + "change.");
        change("addRule", x -> x.addRule(INSERT, BEFORE, 0, REFUSE, 0, 0, 0), 3);
        RuleDepths added = object();
        added.addRule(INSERT, BEFORE, 0, REFUSE, 0, 0, 0);
        Due.is("it fires", added.insert(50, 0, 0, 0), RuleDepths.REFUSED);
        Due.sentence("Promise 3", "Sets the condition of a rule. This is a change.");
        change("setCondition", x -> x.setCondition(0, 1, 5, 3), 0);
        RuleDepths conditioned = object();
        conditioned.setCondition(0, 1, 5, 300);
        Due.is("update", conditioned.update(4, 0, 9), 1);
        Due.is("it does not hold", conditioned.field(4, 2), 3);
        Due.is("update", conditioned.update(4, 1, 301), 1);
        Due.is("it holds", conditioned.field(4, 2), 4);
        Due.sentence("Promise 4", "Puts a rule on or off. This is a change.");
        change("put on", x -> x.put(2, true), 3);
        change("put off", x -> x.put(1, false), 1);
        Due.sentence("Promise 4", "on: whether it is on then");
        RuleDepths put = object();
        Due.is("a delete without the rule 2", put.ifDeleted(4, 2), 1);
        Due.is("on", put.put(2, true) + put.rule(2, 10), 4);
        Due.is("a delete with it", put.ifDeleted(4, 2), 3);
        Due.is("off", put.put(2, false) + put.rule(2, 10), 2);
        Due.is("a delete without it", put.ifDeleted(4, 2), 1);
        Due.sentence("Promise 5", "Removes a rule. This is a change.");
        change("removeRule", x -> x.removeRule(0), 2);
        RuleDepths removed = object();
        removed.removeRule(0);
        Due.is("it does not fire any more", removed.ifUpdated(4, 0, 5, 3), 0);
        Due.is("the next one has its number", removed.rule(0, 3), CAUSE_INSERT);
        Due.sentence("Promise 6", "Changes a setting. This is a change.");
        change("set of the greatest depth", x -> x.set(0, 2), 6);
        change("set of guarding", x -> x.set(1, 1), 0);
        RuleDepths setting = object();
        Due.is("three operations", setting.ifInserted(3, 0, 0, 0, 0), 0);
        setting.addRule(UPDATE, AFTER, 0, CAUSE_UPDATE, 0, 0, 1);
        Due.is("on two depths, too deep on the third for the depth 2", setting.depthFor(4, 0, 50), 4);
        setting.set(0, 3);
        Due.is("refused", setting.update(4, 0, 50), RuleDepths.REFUSED);
        setting.set(1, 1);
        Due.is("guarding", setting.update(4, 0, 50), 2);
    }

    private static void changesOfRows() {
        Due.sentence("Promise 7", "Inserts a row. This is a change.");
        change("insert", x -> x.insert(3, 9, 8, 7), 1);
        change("insert with a caused one", x -> x.insert(2, 9, 8, 7), 2);
        RuleDepths inserted = object();
        Due.is("insert", inserted.insert(2, 9, 8, 7), 2);
        Due.is("the row", inserted.field(2, 1), 8);
        Due.is("rows", inserted.total(0), 5);
        Due.sentence("Promise 8", "Updates a row. This is a change.");
        change("update", x -> x.update(4, 0, 99), 1);
        RuleDepths updated = object();
        Due.is("update", updated.update(4, 0, 99), 1);
        Due.is("zero", updated.field(4, 0), 99);
        Due.is("rows", updated.total(0), 3);
        Due.sentence("Promise 9", "Deletes a row. This is a change.");
        change("delete", x -> x.delete(4), 1);
        RuleDepths deleted = object();
        Due.is("delete", deleted.delete(4), 1);
        Due.is("zero", deleted.field(4, 0), RuleDepths.UNKNOWN);
        Due.is("rows", deleted.total(0), 2);
        Due.sentence("Promise 12", "This is one change.");
        change("perform", RuleDepths::perform, 2);
        Due.sentence("Promise 15", "This is a change.");
        change("restore", RuleDepths::restore, 3);
    }

    private static void appends() {
        Due.sentence("Promise 10", "Appends a character to the text.");
        RuleDepths x = new RuleDepths();
        String text = "i31=4,-5,60;u31.1=7;d31;i13=0,1,2";
        for (int length = 1; length <= text.length(); length++) {
            Due.is("type", x.type(text.charAt(length - 1)), length);
            Due.is("the length", x.total(11), length);
        }
        Due.is("the characters stand as they were typed", x.perform(), 4);
        Due.is("the row", x.field(13, 2), 2);
        Due.is("the other one", x.field(31, 0), RuleDepths.UNKNOWN);
    }

    private static void tellsOfRowsAndRules() {
        RuleDepths x = object();
        Due.sentence("Promise 16", "Returns a field of a row.");
        int[][] fields = {{1, 2, 3}, {1, 8, 5}, {1, 2, 3}};
        for (int row = 0; row < 3; row++) {
            for (int field = 0; field < 3; field++) {
                Due.is("field(" + (4 + row) + ", " + field + ")", x.field(4 + row, field), fields[row][field]);
            }
        }
        Due.sentence("Promise 17", "Returns a key.");
        for (int rank = 0; rank < 3; rank++) {
            Due.is("keyAt(" + rank + ")", x.keyAt(rank), 4 + rank);
        }
        Due.sentence("Promise 18", "Returns something of a rule.");
        int[][] rules = {
            {UPDATE, BEFORE, 4, SET, 2, 3, 0, 3, 4, 0, 1, 1}, {INSERT, AFTER, 3, CAUSE_INSERT, 0, 3, 1, 3, 0, 6, 1, 2},
            {DELETE, AFTER, 9, CAUSE_DELETE, 0, 3, 1, 3, 4, 0, 0, 0},
        };
        for (int rule = 0; rule < 3; rule++) {
            for (int what = 0; what < 12; what++) {
                Due.is("rule(" + rule + ", " + what + ")", x.rule(rule, what), rules[rule][what]);
            }
        }
        Due.sentence("Promise 19",
                "Returns the rule that comes at a place among the rules of an event and a moment (on or off).");
        x.addRule(DELETE, AFTER, 8, REFUSE, 0, 0, 0);
        x.addRule(DELETE, BEFORE, 0, SKIP, 0, 0, 0);
        Due.is("the first after a delete", x.order(DELETE, AFTER, 0), 3);
        Due.is("the second, which is off", x.order(DELETE, AFTER, 1), 2);
        Due.is("the first before a delete", x.order(DELETE, BEFORE, 0), 4);
        Due.is("the first after an insert", x.order(INSERT, AFTER, 0), 1);
        Due.is("the first before an update", x.order(UPDATE, BEFORE, 0), 0);
    }

    private static void tellsOfFiringsAndTotals() {
        RuleDepths x = object();
        Due.sentence("Promise 20", "Returns something of a recorded firing.");
        record("the update", x, new int[] {0, 1, 5});
        x.undo();
        record("the insert", x, new int[] {1, 1, 4}, new int[] {1, 2, 5});
        Due.sentence("Promise 21", "Returns a number of the whole.");
        int[] after = {3, 3, 2, 6, 0, 1, 3, 2, 3, 2, 1, 9};
        for (int what = 0; what < after.length; what++) {
            Due.is("total(" + what + ")", x.total(what), after[what]);
        }
    }

    // What is told of a statement, and then what it comes to.

    private static void questions() {
        Due.sentence("Promise 22", "Tells about an insert.");
        toldAndDone(INSERT);
        Due.sentence("Promise 23", "Tells about an update.");
        toldAndDone(UPDATE);
        Due.sentence("Promise 24", "Tells about a delete.");
        toldAndDone(DELETE);
    }

    private static void toldAndDone(int event) {
        int refusals = 0;
        for (int number = 0; number < 200; number++) {
            RuleDepths x = mixture(number);
            int[] told = new int[5];
            for (int what = 0; what < 5; what++) {
                told[what] = ask(x, event, number, what);
            }
            int operations = x.total(6);
            int firings = x.total(7);
            int answer = carryOut(x, event, number);
            boolean refused = told[0] != 0;
            refusals += refused ? 1 : 0;
            String name = "event " + event + ", mixture " + number;
            Due.is(name, answer, refused ? RuleDepths.REFUSED : told[2]);
            Due.holds(name + ", the refusing rule " + told[1], refused == told[1] >= 0);
            Due.is(name + ", operations", x.total(6) - operations, refused ? 0 : told[2]);
            Due.is(name + ", firings", x.total(7) - firings, refused ? 0 : told[3]);
            // The rows were inserted ahead of the rules, so the greatest depth was 1.
            Due.is(name + ", depth", x.total(8), refused ? 1 : told[4]);
        }
        Due.holds(refusals + " of 200 were refused", refusals > 20 && refusals < 100);
    }

    private static int ask(RuleDepths x, int event, int number, int what) {
        switch (event) {
            case INSERT:
                return x.ifInserted(10 + number % 3, 5, number, 1, what);
            case UPDATE:
                return x.ifUpdated(number % 10, number % 3, 500 + number, what);
            default:
                return x.ifDeleted(number % 10, what);
        }
    }

    private static int carryOut(RuleDepths x, int event, int number) {
        switch (event) {
            case INSERT:
                return x.insert(10 + number % 3, 5, number, 1);
            case UPDATE:
                return x.update(number % 10, number % 3, 500 + number);
            default:
                return x.delete(number % 10);
        }
    }

    /** Rows 0 to 9, and rules that are another mixture for each number. */
    private static RuleDepths mixture(int number) {
        RuleDepths x = new RuleDepths();
        for (int key = 0; key < 10; key++) {
            x.insert(key, key, 10 + key, 20 + key);
        }
        for (int rule = 0; rule < 6; rule++) {
            int mixed = number * 7 + rule * 5;
            int moment = mixed % 4 == 0 ? BEFORE : AFTER;
            int kind = moment == BEFORE ? mixed / 4 % 3 : 3 + mixed % 3;
            x.addRule((number + rule) % 3, moment, mixed % 10, kind, mixed % 3, (number + rule) % 4, mixed % 7 - 3);
            x.setCondition(rule, mixed % 4, mixed % 6, mixed % 11);
        }
        x.set(0, 2 + number % 7);
        x.set(1, number / 3 % 2);
        return x;
    }
}
