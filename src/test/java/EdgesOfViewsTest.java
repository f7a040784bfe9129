import java.util.function.IntUnaryOperator;

/** The boundary cases of promises 16 to 25: each argument's range, and the line of what is returned. */
public final class EdgesOfViewsTest {
    private static final int UNKNOWN = -1001;
    private static final int OUT_OF_RANGE = -1002;
    private static final int FULL = -1003;
    private static final int DUPLICATE = -1004;
    private static final int REFUSED = -1005;
    private static final int NONE = -1006;

    private static final int LEAST = Integer.MIN_VALUE;
    private static final int MOST = Integer.MAX_VALUE;

    public static void main(String[] args) {
        field();
        keyAt();
        rule();
        order();
        orderOfTheFullList();
        firing();
        total();
        totalsAtTheirEnds();
        countsSoFar();
        ifInsertedRanges();
        ifInsertedAnswers();
        ifUpdatedRanges();
        ifUpdatedAnswers();
        ifDeleted();
        reportsOfWhatIsNotRefused();
        reportsOfWhatIsRefused();
        questionsChangeNothing();
        depthForRanges();
        depthForEachSetting();
        depthForRefused();
        firstErrorIsReturned();
        noneOnlyWithoutAnError();
        Due.end();
    }

    private static void field() {
        Due.sentence("Promise 16", "key: the key of a row");
        RuleDepths empty = new RuleDepths();
        Due.is("the empty table", empty.field(0, 0), UNKNOWN);
        RuleDepths x = new RuleDepths();
        x.insert(0, -999, 0, 999);
        x.insert(99, 1, 2, 3);
        Due.is("the least value", x.field(0, 0), -999);
        Due.is("the greatest value", x.field(0, 2), 999);
        Due.is("the key 99", x.field(99, 2), 3);
        int[] unknown = {LEAST, -1, 1, 98, 100, MOST};
        for (int key : unknown) {
            Due.is("the key " + key, x.field(key, 0), UNKNOWN);
        }
        Due.sentence("Promise 16", "field: 0 to 2");
        Due.range("field", 0, 2, v -> v + 1, OUT_OF_RANGE, v -> x.field(99, v));
        Due.sentence("Promise 16", "Returns the value; UNKNOWN; OUT_OF_RANGE.");
        for (int key : unknown) {
            Due.is("UNKNOWN ahead of OUT_OF_RANGE", x.field(key, 3), UNKNOWN);
            Due.is("UNKNOWN ahead of OUT_OF_RANGE", x.field(key, -1), UNKNOWN);
        }
    }

    private static void keyAt() {
        Due.sentence("Promise 17",
                "Returns the key; OUT_OF_RANGE if rank is negative; NONE if there are not so many rows.");
        RuleDepths x = new RuleDepths();
        Due.is("the empty table", x.keyAt(0), NONE);
        Due.is("the empty table", x.keyAt(-1), OUT_OF_RANGE);
        for (int rows = 1; rows <= 20; rows++) {
            x.insert(100 - 5 * rows, 0, 0, 0);
            Due.is("the least key", x.keyAt(0), 100 - 5 * rows);
            Due.is("the greatest key", x.keyAt(rows - 1), 95);
            Due.is("behind it", x.keyAt(rows), NONE);
            Due.is("far behind it", x.keyAt(MOST), NONE);
            Due.is("negative", x.keyAt(-1), OUT_OF_RANGE);
            Due.is("very negative", x.keyAt(LEAST), OUT_OF_RANGE);
        }
        Due.sentence("Promise 17", "rank: 0 for the least key, 1 for the next one, and so on");
        for (int rank = 0; rank < 20; rank++) {
            Due.is("keyAt(" + rank + ")", x.keyAt(rank), 5 * rank);
        }
        RuleDepths y = new RuleDepths();
        Due.rowsOf(y, 99, 0);
        Due.is("the key 0", y.keyAt(0), 0);
        Due.is("the key 99", y.keyAt(1), 99);
    }

    private static void rule() {
        Due.sentence("Promise 18", "rule: a rule");
        RuleDepths x = new RuleDepths();
        Due.is("no rule", x.rule(0, 0), UNKNOWN);
        Due.sentence("Promise 18",
                "what: 0 for its event, 1 for its moment, 2 for its rank, 3 for the kind of its action, 4 to 6 for its "
                + "a, b and c, 7 to 9 for the field, the comparison and the number of its condition, 10 for whether it "
                + "is on (1, otherwise 0), 11 for its firings so far");
        x.addRule(1, 0, 42, 0, 2, 1, -7);
        x.setCondition(0, 1, 3, 12);
        x.insert(1, 0, 0, 0);
        x.update(1, 0, 3);
        x.update(1, 0, 4);
        int[] due = {1, 0, 42, 0, 2, 1, -7, 1, 3, 12, 1, 2};
        for (int what = 0; what < due.length; what++) {
            Due.is("rule(0, " + what + ")", x.rule(0, what), due[what]);
        }
        Due.range("what", 0, 11, v -> due[v], OUT_OF_RANGE, v -> x.rule(0, v));
        Due.sentence("Promise 18", "10 for whether it is on (1, otherwise 0)");
        Due.is("off", x.put(0, false), 0);
        Due.is("off", x.rule(0, 10), 0);
        Due.is("on", x.put(0, true), 1);
        Due.is("on", x.rule(0, 10), 1);
        Due.sentence("Promise 18", "Returns the number; UNKNOWN; OUT_OF_RANGE.");
        for (int rule : new int[] {LEAST, -1, 1, MOST}) {
            Due.is("the rule " + rule, x.rule(rule, 0), UNKNOWN);
            Due.is("UNKNOWN ahead of OUT_OF_RANGE", x.rule(rule, 12), UNKNOWN);
            Due.is("UNKNOWN ahead of OUT_OF_RANGE", x.rule(rule, -1), UNKNOWN);
        }
        for (int rule = 1; rule < 12; rule++) {
            x.addRule(0, 0, 0, 0, 0, 0, rule);
        }
        Due.is("the rule 11", x.rule(11, 6), 11);
        Due.is("the rule 12", x.rule(12, 6), UNKNOWN);
        Due.sentence("Promise 18", "its firings so far (in statements that were not refused)");
        x.addRule(1, 1, 0, 1, 0, 0, 0);
        x.removeRule(1);
        x.addRule(1, 1, 0, 1, 0, 0, 0);
        Due.is("refused", x.update(1, 0, 5), REFUSED);
        Due.is("firings of the rule 0", x.rule(0, 11), 2);
        Due.is("firings of the refusing rule", x.rule(11, 11), 0);
    }

    private static void order() {
        Due.sentence("Promise 19", "place: 0 for the first one, and so on");
        RuleDepths x = new RuleDepths();
        for (int group = 0; group < 6; group++) {
            Due.is("no rule", x.order(group / 2, group % 2, 0), NONE);
            Due.is("no rule", x.order(group / 2, group % 2, -1), OUT_OF_RANGE);
        }
        for (int group = 0; group < 6; group++) {
            x.addRule(group / 2, group % 2, 5, 1, 0, 0, 0);
        }
        for (int group = 0; group < 6; group++) {
            Due.is("the only one of its group", x.order(group / 2, group % 2, 0), group);
            Due.is("behind it", x.order(group / 2, group % 2, 1), NONE);
            Due.is("far behind it", x.order(group / 2, group % 2, MOST), NONE);
            Due.is("place -1", x.order(group / 2, group % 2, -1), OUT_OF_RANGE);
            Due.is("a very negative place", x.order(group / 2, group % 2, LEAST), OUT_OF_RANGE);
        }
        Due.sentence("Promise 19", "event: 0 to 2");
        Due.range("event", 0, 2, v -> 2 * v, OUT_OF_RANGE, v -> x.order(v, 0, 0));
        Due.sentence("Promise 19", "moment: 0 or 1");
        Due.range("moment", 0, 1, v -> v, OUT_OF_RANGE, v -> x.order(0, v, 0));
        Due.sentence("Promise 19",
                "Returns the rule; OUT_OF_RANGE (also if place is negative); NONE if there are not so many.");
        Due.is("OUT_OF_RANGE ahead of NONE, event", x.order(3, 0, 50), OUT_OF_RANGE);
        Due.is("OUT_OF_RANGE ahead of NONE, moment", x.order(0, 2, 50), OUT_OF_RANGE);
    }

    private static void orderOfTheFullList() {
        Due.sentence("Promise 19", "among the rules of an event and a moment (on or off)");
        RuleDepths x = new RuleDepths();
        for (int number = 0; number < 12; number++) {
            x.addRule(2, 1, number % 2 == 0 ? 99 : 0, 5, 0, 0, 0);
        }
        for (int number = 0; number < 12; number += 3) {
            x.put(number, false);
        }
        int[] due = {1, 3, 5, 7, 9, 11, 0, 2, 4, 6, 8, 10};
        for (int place = 0; place < 12; place++) {
            Due.is("place " + place, x.order(2, 1, place), due[place]);
        }
        Due.is("place 12", x.order(2, 1, 12), NONE);
        Due.is("the others have none", x.order(2, 0, 0), NONE);
    }

    private static void firing() {
        Due.sentence("Promise 20", "index: 0 for the first one, and so on");
        RuleDepths x = new RuleDepths();
        Due.is("none yet", x.firing(0, 0), NONE);
        Due.is("none yet, index -1", x.firing(-1, 0), OUT_OF_RANGE);
        x.addRule(0, 1, 0, 3, 0, 3, 1);
        x.setCondition(0, 3, 2, 98);
        x.insert(98, 0, 0, 0);
        int[] due = {0, 1, 98};
        Due.sentence("Promise 20",
                "what: 0 for the rule (by its number then), 1 for the depth of the operation, 2 for the key of the row");
        Due.range("what", 0, 2, v -> due[v], OUT_OF_RANGE, v -> x.firing(0, v));
        Due.sentence("Promise 20",
                "Returns the number; OUT_OF_RANGE (also if index is negative); NONE if there are not so many.");
        for (int what = 0; what < 3; what++) {
            Due.is("index 1", x.firing(1, what), NONE);
            Due.is("index 60", x.firing(60, what), NONE);
            Due.is("the greatest index", x.firing(MOST, what), NONE);
            Due.is("index -1", x.firing(-1, what), OUT_OF_RANGE);
            Due.is("the least index", x.firing(LEAST, what), OUT_OF_RANGE);
        }
        Due.is("OUT_OF_RANGE ahead of NONE", x.firing(1, 3), OUT_OF_RANGE);
        Due.is("OUT_OF_RANGE ahead of NONE", x.firing(1, -1), OUT_OF_RANGE);
        Due.sentence("Promise 20", "0 for the rule (by its number then)");
        x.addRule(0, 0, 0, 0, 0, 0, 0);
        x.insert(50, 0, 0, 0);
        Due.is("the rule 1", x.firing(0, 0), 1);
        x.removeRule(0);
        Due.is("its number then", x.firing(0, 0), 1);
    }

    private static void total() {
        Due.sentence("Promise 21",
                "what: 0 for the rows, 1 for the rules, 2 for the rules that are on, 3 and 4 for the settings 0 and 1, "
                + "5 for statements so far .. 9 for the recorded firings, 10 for the states in the history, 11 for the "
                + "length of the text");
        RuleDepths x = new RuleDepths();
        x.addRule(0, 1, 0, 3, 0, 3, 1);
        x.setCondition(0, 3, 0, 3);
        x.addRule(1, 0, 0, 0, 0, 0, 0);
        x.addRule(1, 0, 0, 0, 0, 0, 0);
        x.put(1, false);
        x.set(0, 6);
        x.set(1, 0);
        x.insert(2, 0, 0, 0);
        x.insert(9, 0, 0, 0);
        x.update(9, 1, 1);
        Due.typed(x, "d9;d");
        int[] due = {3, 3, 2, 6, 0, 3, 4, 2, 2, 1, 4, 4};
        for (int what = 0; what < due.length; what++) {
            Due.is("total(" + what + ")", x.total(what), due[what]);
        }
        Due.sentence("Promise 21", "Returns the number; OUT_OF_RANGE.");
        Due.range("what", 0, 11, v -> due[v], OUT_OF_RANGE, x::total);
    }

    private static void totalsAtTheirEnds() {
        RuleDepths x = new RuleDepths();
        Due.rows(x, 0, 19);
        for (int rule = 0; rule < 12; rule++) {
            x.addRule(1, 0, 0, 0, 1, 0, rule);
        }
        x.set(0, 8);
        x.set(1, 1);
        for (int length = 0; length < 90; length++) {
            x.type('u');
        }
        x.update(0, 0, 1);
        int[] due = {20, 12, 12, 8, 1, 21, 21, 12, 1, 12, 4, 80};
        for (int what = 0; what < due.length; what++) {
            Due.is("total(" + what + ") of the full object", x.total(what), due[what]);
        }
    }

    private static void countsSoFar() {
        Due.sentence("Promise 21",
                "5 for statements so far that were not refused, and were not nothing (one that is skipped counts), 6 "
                + "for their operations so far, 7 for their firings so far, 8 for the greatest depth of an operation in "
                + "them so far");
        RuleDepths x = new RuleDepths();
        Due.rows(x, 0, 3);
        x.addRule(1, 1, 0, 4, 0, 0, 1);
        x.addRule(2, 0, 0, 2, 0, 0, 0);
        counts("four inserts", x, 4, 4, 0, 1);
        Due.is("nothing", x.update(0, 0, 0), NONE);
        counts("nothing", x, 4, 4, 0, 1);
        Due.is("too deep", x.update(0, 0, 5), REFUSED);
        counts("refused", x, 4, 4, 0, 1);
        Due.is("an error", x.insert(0, 0, 0, 0), DUPLICATE);
        counts("an error", x, 4, 4, 0, 1);
        Due.is("skipped", x.delete(0), 1);
        counts("skipped", x, 5, 5, 1, 1);
        x.ifUpdated(1, 0, 5, 2);
        x.depthFor(1, 0, 5);
        counts("questions", x, 5, 5, 1, 1);
        Due.is("up to the depth 3", x.update(1, 0, 5), 3);
        counts("up to the depth 3", x, 6, 8, 4, 3);
        Due.is("one operation", x.update(3, 0, 50), 1);
        counts("the depth stays", x, 7, 9, 5, 3);
        Due.is("of a text", Due.performed(x, "u3.0=1;u3.0=1;u2.0=70;d3"), 4);
        counts("of a text", x, 10, 13, 5 + 1 + 2 + 1, 3);
        x.undo();
        counts("undone", x, 7, 9, 5, 3);
    }

    private static void counts(String when, RuleDepths x, int... due) {
        for (int what = 0; what < due.length; what++) {
            Due.is("total(" + (5 + what) + ") after: " + when, x.total(5 + what), due[what]);
        }
    }

    /** An answer that is expected of a question that is in its range: that there would be one operation. */
    private static final IntUnaryOperator ONE = v -> 1;

    private static void ifInsertedRanges() {
        RuleDepths x = new RuleDepths();
        Due.sentence("Promise 22", "key: 0 to 99");
        Due.range("key", 0, 99, ONE, OUT_OF_RANGE, v -> x.ifInserted(v, 0, 0, 0, 2));
        Due.sentence("Promise 22", "zero: the field 0, -999 to 999");
        Due.range("zero", -999, 999, ONE, OUT_OF_RANGE, v -> x.ifInserted(9, v, 0, 0, 2));
        Due.sentence("Promise 22", "one: the field 1, -999 to 999");
        Due.range("one", -999, 999, ONE, OUT_OF_RANGE, v -> x.ifInserted(9, 0, v, 0, 2));
        Due.sentence("Promise 22", "two: the field 2, -999 to 999");
        Due.range("two", -999, 999, ONE, OUT_OF_RANGE, v -> x.ifInserted(9, 0, 0, v, 2));
        Due.sentence("Promise 22", "what: 0 for the reason for which it would be refused, .. 4 for the greatest depth");
        Due.range("what", 0, 4, v -> v / 4, OUT_OF_RANGE, v -> x.ifInserted(9, 0, 0, 0, v));
    }

    private static void ifInsertedAnswers() {
        Due.sentence("Promise 22",
                "Returns the number; the errors of insert() but REFUSED; OUT_OF_RANGE also for what, behind them.");
        RuleDepths x = new RuleDepths();
        Due.rows(x, 0, 18);
        Due.is("the 20th row", x.ifInserted(99, 0, 0, 0, 2), 1);
        x.insert(19, 0, 0, 0);
        for (int what : new int[] {0, 4, 5, -1, MOST, LEAST}) {
            Due.is("FULL ahead of what " + what, x.ifInserted(99, 0, 0, 0, what), FULL);
            Due.is("DUPLICATE ahead of FULL and what " + what, x.ifInserted(0, 0, 0, 0, what), DUPLICATE);
            Due.is("OUT_OF_RANGE ahead of DUPLICATE", x.ifInserted(0, 0, 0, 1000, what), OUT_OF_RANGE);
            Due.is("OUT_OF_RANGE ahead of FULL", x.ifInserted(100, 0, 0, 0, what), OUT_OF_RANGE);
        }
        x.delete(0);
        x.addRule(0, 0, 0, 1, 0, 0, 0);
        Due.is("never REFUSED: the reason", x.ifInserted(99, 0, 0, 0, 0), 1);
        Due.is("never REFUSED: the operations", x.ifInserted(99, 0, 0, 0, 2), 1);
        Due.is("OUT_OF_RANGE for what", x.ifInserted(99, 0, 0, 0, 5), OUT_OF_RANGE);
    }

    private static void ifUpdatedRanges() {
        RuleDepths x = new RuleDepths();
        Due.is("the empty table", x.ifUpdated(0, 0, 1, 0), UNKNOWN);
        x.insert(99, 5, 5, 5);
        Due.sentence("Promise 23", "key: the key of a row");
        for (int key : new int[] {LEAST, -1, 0, 98, 100, MOST}) {
            Due.is("the key " + key, x.ifUpdated(key, 0, 1, 2), UNKNOWN);
        }
        Due.sentence("Promise 23", "field: 0 to 2");
        Due.range("field", 0, 2, ONE, OUT_OF_RANGE, v -> x.ifUpdated(99, v, 1, 2));
        Due.sentence("Promise 23", "value: -999 to 999");
        Due.range("value", -999, 999, ONE, OUT_OF_RANGE, v -> x.ifUpdated(99, 1, v, 2));
        Due.sentence("Promise 23", "what: as for ifInserted()");
        Due.range("what", 0, 4, v -> v / 4, OUT_OF_RANGE, v -> x.ifUpdated(99, 2, 1, v));
    }

    private static void ifUpdatedAnswers() {
        Due.sentence("Promise 23",
                "Returns the number; the errors of update() but REFUSED; OUT_OF_RANGE also for what, behind them; NONE "
                + "if the field has this value already.");
        RuleDepths x = new RuleDepths();
        x.insert(0, -999, 0, 999);
        x.addRule(1, 0, 0, 1, 0, 0, 0);
        for (int what = 0; what <= 4; what++) {
            Due.is("NONE, the least value, what " + what, x.ifUpdated(0, 0, -999, what), NONE);
            Due.is("NONE, zero, what " + what, x.ifUpdated(0, 1, 0, what), NONE);
            Due.is("NONE, the greatest value, what " + what, x.ifUpdated(0, 2, 999, what), NONE);
        }
        for (int what : new int[] {LEAST, -1, 5, MOST}) {
            Due.is("OUT_OF_RANGE for what ahead of NONE", x.ifUpdated(0, 0, -999, what), OUT_OF_RANGE);
            Due.is("UNKNOWN ahead of what", x.ifUpdated(1, 0, 0, what), UNKNOWN);
            Due.is("UNKNOWN ahead of OUT_OF_RANGE", x.ifUpdated(1, 3, 1000, what), UNKNOWN);
            Due.is("OUT_OF_RANGE, field and what", x.ifUpdated(0, 3, 0, what), OUT_OF_RANGE);
        }
        Due.is("never REFUSED: the reason", x.ifUpdated(0, 0, 1, 0), 1);
        Due.is("never REFUSED: the rule", x.ifUpdated(0, 0, 1, 1), 0);
    }

    private static void ifDeleted() {
        Due.sentence("Promise 24", "key: the key of a row");
        RuleDepths x = new RuleDepths();
        Due.is("the empty table", x.ifDeleted(0, 0), UNKNOWN);
        Due.rowsOf(x, 0, 99);
        int[] unknown = {LEAST, -1, 1, 98, 100, MOST};
        for (int key : unknown) {
            Due.is("the key " + key, x.ifDeleted(key, 2), UNKNOWN);
        }
        Due.sentence("Promise 24", "what: as for ifInserted()");
        Due.range("what", 0, 4, v -> v / 4, OUT_OF_RANGE, v -> x.ifDeleted(0, v));
        Due.range("what, the key 99", 0, 4, v -> v / 4, OUT_OF_RANGE, v -> x.ifDeleted(99, v));
        Due.sentence("Promise 24", "Returns the number; UNKNOWN; OUT_OF_RANGE.");
        for (int key : unknown) {
            Due.is("UNKNOWN ahead of OUT_OF_RANGE", x.ifDeleted(key, 5), UNKNOWN);
            Due.is("UNKNOWN ahead of OUT_OF_RANGE", x.ifDeleted(key, -1), UNKNOWN);
        }
        x.addRule(2, 0, 0, 1, 0, 0, 0);
        Due.is("never REFUSED", x.ifDeleted(0, 0), 1);
        Due.is("OUT_OF_RANGE ahead of it", x.ifDeleted(0, 5), OUT_OF_RANGE);
    }

    private static void reportsOfWhatIsNotRefused() {
        Due.sentence("Promise 22",
                "0 for the reason for which it would be refused, 0 if it would not be; 1 for the refusing rule (NONE "
                + "without one); 2 for the operations, 3 for the firings, 4 for the greatest depth of an operation");
        RuleDepths x = new RuleDepths();
        x.insert(5, 0, 0, 0);
        x.addRule(0, 1, 0, 3, 0, 3, 1);
        x.setCondition(0, 3, 0, 52);
        x.addRule(1, 0, 0, 2, 0, 0, 0);
        x.addRule(2, 0, 0, 0, 0, 0, 0);
        int[][] due = {{0, NONE, 1, 0, 1}, {0, NONE, 3, 2, 3}, {0, NONE, 1, 1, 1}, {0, NONE, 1, 1, 1}};
        for (int what = 0; what < 5; what++) {
            Due.is("one operation, what " + what, x.ifInserted(60, 0, 0, 0, what), due[0][what]);
            Due.is("three operations, what " + what, x.ifInserted(50, 0, 0, 0, what), due[1][what]);
            Due.is("skipped, what " + what, x.ifUpdated(5, 0, 1, what), due[2][what]);
            Due.is("a set, what " + what, x.ifDeleted(5, what), due[3][what]);
        }
        // A caused operation that is nothing has no depth, though its rule fires.
        x.insert(51, 0, 0, 0);
        int[] nothing = {0, NONE, 1, 1, 1};
        for (int what = 0; what < 5; what++) {
            Due.is("the caused insert is nothing, what " + what, x.ifInserted(50, 0, 0, 0, what), nothing[what]);
        }
    }

    private static void reportsOfWhatIsRefused() {
        Due.sentence("Promise 22", "(of a refused one: up to then, with the firing by which it is refused)");
        RuleDepths x = new RuleDepths();
        x.insert(5, 0, 0, 0);
        x.addRule(0, 1, 1, 3, 0, 3, 1);
        x.addRule(0, 0, 0, 1, 0, 0, 0);
        x.addRule(2, 1, 0, 1, 0, 0, 0);
        x.addRule(1, 0, 0, 1, 0, 0, 0);
        x.setCondition(1, 3, 2, 52);
        int[][] due = {{1, 1, 1, 1, 1}, {1, 1, 3, 3, 3}, {2, 0, 4, 4, 4}, {1, 3, 1, 1, 1}, {1, 2, 1, 1, 1}};
        for (int what = 0; what < 5; what++) {
            Due.is("at once, what " + what, x.ifInserted(52, 0, 0, 0, what), due[0][what]);
            Due.is("on the depth 3, what " + what, x.ifInserted(50, 0, 0, 0, what), due[1][what]);
            Due.is("on the depth 4, what " + what, x.ifInserted(60, 0, 0, 0, what), due[2][what]);
            Due.is("an update, what " + what, x.ifUpdated(5, 0, 1, what), due[3][what]);
            Due.is("a delete, what " + what, x.ifDeleted(5, what), due[4][what]);
        }
    }

    private static void questionsChangeNothing() {
        Due.sentence("ERRORS", "what would be; nothing changes");
        for (int question = 0; question < 6; question++) {
            int asked = question;
            int[] due = {4, 2, 2, 2, 2, 5};
            Twins.unchanged("the question " + question, EdgesOfViewsTest::made, x -> asked(x, asked), due[question]);
        }
    }

    private static int asked(RuleDepths x, int question) {
        switch (question) {
            case 0:
                return x.ifInserted(20, 5, 0, 0, 2);
            case 1:
                return x.ifUpdated(2, 0, 9, 2);
            case 2:
                return x.ifDeleted(2, 2);
            case 3:
                return x.ifUpdated(2, 0, 66, 3);
            case 4:
                return x.ifInserted(20, 6, 0, 0, 0);
            default:
                return x.depthFor(0, 0, 9);
        }
    }

    /** An object with rows 0 to 3 and rules that cause something after each event. */
    private static void made(RuleDepths x) {
        Due.rows(x, 0, 3);
        x.addRule(0, 1, 0, 3, 0, 3, 1);
        x.setCondition(0, 0, 2, 6);
        x.addRule(1, 1, 0, 4, 0, 0, 1);
        x.addRule(2, 1, 0, 5, 0, 3, 1);
        x.setCondition(2, 3, 2, 2);
        x.addRule(0, 1, 0, 3, 0, 3, 1);
        x.setCondition(3, 3, 0, 23);
        x.addRule(1, 0, 0, 1, 0, 0, 0);
        x.setCondition(4, 0, 2, 67);
        x.keep();
        x.update(3, 1, 8);
        Due.typed(x, "u3.0=9;d1");
    }

    private static void depthForRanges() {
        RuleDepths x = new RuleDepths();
        Due.sentence("Promise 25", "key: the key of a row");
        Due.is("the empty table", x.depthFor(0, 0, 1), UNKNOWN);
        x.insert(99, 5, 5, 5);
        for (int key : new int[] {LEAST, -1, 0, 98, 100, MOST}) {
            Due.is("the key " + key, x.depthFor(key, 0, 1), UNKNOWN);
            Due.is("UNKNOWN ahead of OUT_OF_RANGE, field", x.depthFor(key, 3, 1), UNKNOWN);
            Due.is("UNKNOWN ahead of OUT_OF_RANGE, value", x.depthFor(key, 0, 1000), UNKNOWN);
        }
        Due.sentence("Promise 25", "field: 0 to 2");
        Due.range("field", 0, 2, ONE, OUT_OF_RANGE, v -> x.depthFor(99, v, 1));
        Due.sentence("Promise 25", "value: -999 to 999");
        Due.range("value", -999, 999, ONE, OUT_OF_RANGE, v -> x.depthFor(99, 0, v));
        Due.is("the field has this value already", x.depthFor(99, 0, 5), NONE);
    }

    private static void depthForEachSetting() {
        Due.sentence("Promise 25",
                "Returns the setting, 1 to 8; the errors of update() but REFUSED; NONE if it would be refused with 8, "
                + "too, or the field has this value already.");
        for (int depth = 1; depth <= 9; depth++) {
            RuleDepths x = new RuleDepths();
            Due.rows(x, 0, 9);
            x.addRule(1, 1, 0, 4, 0, 0, 1);
            x.setCondition(0, 3, 0, depth - 1);
            for (int setting : new int[] {1, 8, 4}) {
                x.set(0, setting);
                Due.is("depthFor with the setting " + setting, x.depthFor(0, 0, 5), depth <= 8 ? depth : NONE);
                Due.is("the setting stays", x.total(3), setting);
                Due.is("so the update is", x.ifUpdated(0, 0, 5, 0), depth <= setting ? 0 : 2);
            }
            if (depth <= 8) {
                x.set(0, depth);
                Due.is("the update with it", x.update(0, 0, 5), depth);
            }
        }
        Due.sentence("Promise 25",
                "Tells with which least greatest depth (as a setting) an update would not be refused.");
        RuleDepths x = new RuleDepths();
        Due.rows(x, 0, 6);
        x.addRule(1, 1, 0, 4, 0, 0, 1);
        Due.is("the last firing causes nothing, but needs a depth", x.depthFor(0, 0, 5), 8);
        x.insert(7, 0, 0, 0);
        Due.is("it would need 9", x.depthFor(0, 0, 5), NONE);
        Due.is("from the row 1", x.depthFor(1, 0, 5), 8);
    }

    private static void depthForRefused() {
        RuleDepths x = new RuleDepths();
        Due.rows(x, 0, 3);
        x.addRule(1, 1, 0, 4, 0, 0, 1);
        x.setCondition(0, 3, 0, 3);
        x.addRule(1, 0, 0, 1, 0, 0, 0);
        x.setCondition(1, 3, 2, 3);
        Due.is("refused by a rule on the depth 4", x.depthFor(0, 0, 5), NONE);
        x.put(1, false);
        Due.is("not refused", x.depthFor(0, 0, 5), 4);
        x.put(1, true);
        Due.is("refused by a rule at once", x.depthFor(3, 0, 5), NONE);
        Due.is("nothing is NONE, too", x.depthFor(3, 0, 0), NONE);
        RuleDepths y = new RuleDepths();
        Due.rows(y, 0, 2);
        for (int rule = 0; rule < 11; rule++) {
            y.addRule(1, 1, 5, 4, 0, 0, rule + 1);
            y.setCondition(rule, 3, 1, rule < 8 ? 1 : 0);
        }
        Due.is("100 operations", y.depthFor(0, 0, 100), 3);
        y.addRule(1, 1, 99, 4, 1, 0, 0);
        y.setCondition(11, 3, 2, 0);
        Due.is("101 operations", y.depthFor(0, 0, 100), NONE);
    }

    /** With every argument wrong at once, and everything full. */
    private static void firstErrorIsReturned() {
        Due.sentence("ERRORS",
                "If several errors apply, the one that stands first in the @return line is returned.");
        RuleDepths x = new RuleDepths();
        Due.rows(x, 0, 19);
        for (int rule = 0; rule < 12; rule++) {
            x.addRule(rule % 3, 0, 0, 1, 0, 0, 0);
        }
        Due.is("addRule", x.addRule(3, 2, 100, 6, 3, 4, 1000), OUT_OF_RANGE);
        Due.is("setCondition", x.setCondition(12, 4, 6, 1000), UNKNOWN);
        Due.is("set", x.set(2, 9), UNKNOWN);
        Due.is("insert", x.insert(19, 0, 0, 1000), OUT_OF_RANGE);
        Due.is("insert, the next one", x.insert(19, 0, 0, 0), DUPLICATE);
        Due.is("insert, the next one", x.insert(20, 0, 0, 0), FULL);
        Due.is("update", x.update(20, 3, 1000), UNKNOWN);
        Due.is("update, the next one", x.update(19, 3, 1000), OUT_OF_RANGE);
        Due.is("update, the next one", x.update(19, 0, 1), REFUSED);
        Due.is("delete", x.delete(20), UNKNOWN);
        Due.is("delete, the next one", x.delete(19), REFUSED);
        Due.is("perform", Due.performed(x, "d20;d19;"), -2008);
        Due.is("perform, the next one", Due.performed(x, "d20;d19"), UNKNOWN);
        Due.is("field", x.field(20, 3), UNKNOWN);
        Due.is("rule", x.rule(12, 12), UNKNOWN);
        Due.is("ifInserted", x.ifInserted(19, 0, 0, 1000, 5), OUT_OF_RANGE);
        Due.is("ifInserted, the next one", x.ifInserted(19, 0, 0, 0, 5), DUPLICATE);
        Due.is("ifInserted, the next one", x.ifInserted(20, 0, 0, 0, 5), FULL);
        Due.is("ifUpdated", x.ifUpdated(20, 3, 1000, 5), UNKNOWN);
        Due.is("ifUpdated, the next one", x.ifUpdated(19, 3, 1000, 5), OUT_OF_RANGE);
        Due.is("ifDeleted", x.ifDeleted(20, 5), UNKNOWN);
        Due.is("depthFor", x.depthFor(20, 3, 1000), UNKNOWN);
        Due.is("depthFor, the next one", x.depthFor(19, 3, 1), OUT_OF_RANGE);
    }

    private static void noneOnlyWithoutAnError() {
        Due.sentence("ERRORS", "NONE is not an error; it is returned only if no error applies.");
        RuleDepths x = new RuleDepths();
        Due.is("keyAt, and there is no row", x.keyAt(-1), OUT_OF_RANGE);
        Due.is("order, and there is no rule", x.order(3, 0, 0), OUT_OF_RANGE);
        Due.is("order, and there is no rule", x.order(0, 2, 0), OUT_OF_RANGE);
        Due.is("order, and there is no rule", x.order(0, 0, -1), OUT_OF_RANGE);
        Due.is("firing, and there is none", x.firing(0, 3), OUT_OF_RANGE);
        Due.is("firing, and there is none", x.firing(-1, 0), OUT_OF_RANGE);
        Due.is("put, and there is no rule", x.put(0, true), UNKNOWN);
        x.insert(1, 5, 5, 5);
        Due.is("ifUpdated to the same value, what 5", x.ifUpdated(1, 0, 5, 5), OUT_OF_RANGE);
        Due.is("ifUpdated to the same value, what -1", x.ifUpdated(1, 0, 5, -1), OUT_OF_RANGE);
        Due.is("ifUpdated to the same value, what 4", x.ifUpdated(1, 0, 5, 4), NONE);
        Due.is("set to the same value, but no such setting", x.set(2, 0), UNKNOWN);
        Due.is("a statement that returns NONE ahead of one with an error", Due.performed(x, "u1.0=5;d2"), UNKNOWN);
    }
}
