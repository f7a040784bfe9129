/** The boundary cases of the terms OPERATIONS and RECORD, sentence by sentence. */
public final class EdgesOfOperationsTest {
    private static final int UNKNOWN = -1001;
    private static final int DUPLICATE = -1004;
    private static final int REFUSED = -1005;
    private static final int NONE = -1006;

    private static final int INSERT = 0;
    private static final int UPDATE = 1;
    private static final int DELETE = 2;

    private static final int CAUSE_INSERT = 3;
    private static final int CAUSE_UPDATE = 4;
    private static final int CAUSE_DELETE = 5;

    public static void main(String[] args) {
        statementIsOfDepthOne();
        insertThatIsNothing();
        insertIntoTheFullTable();
        changeOfARowThatThereIsNot();
        updateToTheSameValue();
        hundredOperations();
        operationThatIsNothingIsNotCounted();
        operationsOfEachStatement();
        imageOfEachEvent();
        ranksThenNumbers();
        conditionsAsTheImageIsThen();
        skipEndsTheOperation();
        updateThatIsAsTheRowWas();
        afterRulesLookAtTheImage();
        greatestDepths();
        tooDeepThoughNothing();
        tooDeepOrTooMany();
        noCauseNoDepth();
        guarding();
        guardingMeanwhile();
        guardingAtTheGreatestDepth();
        nothingRemains();
        reasons();
        ruleOfTheHundredAndFirst();
        firstSixty();
        recordOfTheLatest();
        Due.end();
    }

    /** What a question of ifUpdated comes to: the reason, the rule, the operations, the firings, the depth. */
    private static void updated(String name, RuleDepths x, int key, int field, int value, int... due) {
        for (int what = 0; what < due.length; what++) {
            Due.is(name + ", ifUpdated(.., " + what + ")", x.ifUpdated(key, field, value, what), due[what]);
        }
    }

    private static void record(String name, RuleDepths x, int[]... due) {
        Due.is(name + ", recorded", x.total(9), due.length);
        for (int index = 0; index < due.length; index++) {
            for (int what = 0; what < 3; what++) {
                Due.is(name + ", firing(" + index + ", " + what + ")", x.firing(index, what), due[index][what]);
            }
        }
        Due.is(name + ", behind the last", x.firing(due.length, 0), NONE);
    }

    private static void statementIsOfDepthOne() {
        Due.sentence("OPERATIONS", "A statement is an operation of the depth 1.");
        RuleDepths x = new RuleDepths();
        Due.is("without a statement there is no depth", x.total(8), 0);
        x.addRule(INSERT, 0, 0, 0, 0, 0, 1);
        Due.is("insert", x.insert(1, 0, 0, 0), 1);
        Due.is("depth", x.total(8), 1);
        record("insert", x, new int[] {0, 1, 1});
        updated("update", x, 1, 1, 5, 0, NONE, 1, 0, 1);
        Due.is("delete", x.ifDeleted(1, 4), 1);
    }

    /**
     * A row 5 for which, after an update of its field 0, an operation with the new value as its key is caused; the
     * table has other rows too. A last rule refuses, if wanted, whatever is of the caused event.
     */
    private static RuleDepths causing(int kind, boolean refusing, int... rows) {
        RuleDepths x = new RuleDepths();
        x.insert(5, 500, 0, 0);
        Due.rowsOf(x, rows);
        x.addRule(UPDATE, 1, 0, kind, 0, 0, 0);
        x.setCondition(0, 3, 2, 5);
        if (refusing) {
            x.addRule(kind - CAUSE_INSERT, 0, 0, 1, 0, 0, 0);
            x.setCondition(1, 3, 3, 5);
        }
        return x;
    }

    private static void insertThatIsNothing() {
        Due.sentence("OPERATIONS",
                "It is nothing, and no rule fires: if it is to insert a row with a key that is not 0 to 99, or is that "
                + "of a row already");
        int[] nothing = {-999, -1, 100, 999, 5, 0, 50, 99};
        for (int key : nothing) {
            Due.is("insert of the key " + key, causing(CAUSE_INSERT, false, 0, 50, 99).update(5, 0, key), 1);
            Due.is("no rule fires for the key " + key, causing(CAUSE_INSERT, true, 0, 50, 99).update(5, 0, key), 1);
            updated("key " + key, causing(CAUSE_INSERT, true, 0, 50, 99), 5, 0, key, 0, NONE, 1, 1, 1);
        }
        int[] something = {0, 1, 98, 99};
        for (int key : something) {
            RuleDepths x = causing(CAUSE_INSERT, false, 50);
            Due.is("insert of the key " + key, x.update(5, 0, key), 2);
            Due.is("the row " + key, x.field(key, 0), key);
            Due.is("the rule fires for the key " + key, causing(CAUSE_INSERT, true, 50).update(5, 0, key), REFUSED);
            updated("key " + key, causing(CAUSE_INSERT, true, 50), 5, 0, key, 1, 1, 2, 2, 2);
        }
    }

    private static void insertIntoTheFullTable() {
        Due.sentence("OPERATIONS", "or while there are 20 rows");
        int[] others = new int[18];
        for (int i = 0; i < others.length; i++) {
            others[i] = 50 + i;
        }
        RuleDepths x = causing(CAUSE_INSERT, false, others);
        Due.is("rows", x.total(0), 19);
        Due.is("the 20th row", x.update(5, 0, 99), 2);
        Due.is("rows", x.total(0), 20);
        Due.is("the 21st row is nothing", x.update(5, 0, 98), 1);
        Due.is("rows", x.total(0), 20);
        Due.is("no row 98", x.field(98, 0), UNKNOWN);
        x.addRule(INSERT, 0, 0, 1, 0, 0, 0);
        Due.is("no rule fires", x.update(5, 0, 97), 1);
        x.delete(50);
        Due.is("with 19 rows it does", x.update(5, 0, 96), REFUSED);
        RuleDepths y = new RuleDepths();
        Due.rows(y, 0, 18);
        y.addRule(INSERT, 1, 0, 3, 0, 3, 1);
        Due.is("the statement inserts the 20th row, so that the caused one is nothing", y.insert(50, 0, 0, 0), 1);
        y.addRule(DELETE, 1, 0, 3, 0, 3, 20);
        Due.is("a delete has made room for it", y.delete(0), 2);
        Due.is("rows", y.total(0), 20);
        Due.is("row 20", y.field(20, 0), 0);
    }

    private static void changeOfARowThatThereIsNot() {
        Due.sentence("OPERATIONS", "if it is to update or delete a row that there is not");
        for (int key : new int[] {-999, -1, 4, 6, 100, 999}) {
            Due.is("delete of " + key, causing(CAUSE_DELETE, false, 0, 50, 99).update(5, 0, key), 1);
            Due.is("no rule fires for " + key, causing(CAUSE_DELETE, true, 0, 50, 99).update(5, 0, key), 1);
        }
        for (int key : new int[] {0, 50, 99}) {
            Due.is("delete of " + key, causing(CAUSE_DELETE, false, 0, 50, 99).update(5, 0, key), 2);
            Due.is("the rule fires for " + key, causing(CAUSE_DELETE, true, 0, 50, 99).update(5, 0, key), REFUSED);
        }
        Due.is("update of a row 6 that there is not", causing(CAUSE_UPDATE, false, 4, 7).update(5, 0, 8), 1);
        Due.is("no rule fires", causing(CAUSE_UPDATE, true, 4, 7).update(5, 0, 8), 1);
        Due.is("update of a row 6", causing(CAUSE_UPDATE, false, 4, 6, 7).update(5, 0, 8), 2);
        Due.is("the rule fires", causing(CAUSE_UPDATE, true, 4, 6, 7).update(5, 0, 8), REFUSED);
    }

    private static void updateToTheSameValue() {
        Due.sentence("OPERATIONS", "if it is to update a field to the value that it has");
        for (int value : new int[] {-999, -1, 0, 1, 999}) {
            RuleDepths x = causing(CAUSE_UPDATE, true);
            Due.is("insert", x.insert(6, value, 7, 7), 1);
            Due.is("the row 6 has " + value + " already", x.update(5, 0, value), 1);
            Due.is("another value", x.update(5, 0, value == 0 ? 1 : 0), REFUSED);
        }
        RuleDepths x = new RuleDepths();
        x.insert(1, 5, -5, 0);
        x.addRule(UPDATE, 0, 0, 1, 0, 0, 0);
        Due.is("a statement that is nothing, field 0", x.update(1, 0, 5), NONE);
        Due.is("a statement that is nothing, field 1", x.update(1, 1, -5), NONE);
        Due.is("a statement that is nothing, field 2", x.update(1, 2, 0), NONE);
        Due.is("the value of another field is something", x.update(1, 1, 5), REFUSED);
    }

    /**
     * Rows 0 to 2 and the rules 0 to 10, by which an update of the row 0 (its field 0 to a value from 100 on) is 100
     * operations: itself, 11 of the row 1, and for each of these 8 of the row 2; the last of them brings the value
     * plus 19 there. There is room for one rule.
     */
    private static RuleDepths hundred() {
        RuleDepths x = new RuleDepths();
        Due.rows(x, 0, 2);
        for (int rule = 0; rule < 11; rule++) {
            x.addRule(UPDATE, 1, 5, CAUSE_UPDATE, 0, 0, rule + 1);
            x.setCondition(rule, 3, 1, rule < 8 ? 1 : 0);
        }
        return x;
    }

    private static void hundredOperations() {
        Due.sentence("OPERATIONS",
                "if the statement has 100 operations already, it is refused (reason 3); if not, this counts as one "
                + "operation of the statement");
        RuleDepths x = hundred();
        updated("100 operations", x, 0, 0, 100, 0, NONE, 100, 99, 3);
        Due.is("100 operations", x.update(0, 0, 100), 100);
        Due.is("row 1", x.field(1, 0), 111);
        Due.is("row 2", x.field(2, 0), 119);
        Due.is("operations", x.total(6), 103);
        x.addRule(UPDATE, 1, 99, CAUSE_UPDATE, 1, 0, 0);
        x.setCondition(11, 3, 2, 0);
        updated("101 operations", x, 0, 0, 200, 3, 11, 100, 100, 3);
        Due.is("101 operations", x.update(0, 0, 200), REFUSED);
        Due.is("row 1", x.field(1, 0), 111);
        Due.is("row 2", x.field(2, 0), 119);
        Due.is("operations", x.total(6), 103);
        x.removeRule(0);
        // Now 1 + 10 + 10 * 7 operations, and 1 + 7 for the field 1 of the row 1.
        Due.is("89 operations", x.update(0, 0, 200), 89);
    }

    private static void operationThatIsNothingIsNotCounted() {
        RuleDepths x = hundred();
        x.addRule(UPDATE, 1, 99, CAUSE_UPDATE, 1, 1, 0);
        x.setCondition(11, 3, 2, 0);
        updated("the 101st would be nothing", x, 0, 0, 100, 0, NONE, 100, 100, 3);
        Due.is("the 101st would be nothing", x.update(0, 0, 100), 100);
        Due.is("its rule has fired", x.rule(11, 11), 1);
        RuleDepths y = hundred();
        y.addRule(UPDATE, 1, 0, CAUSE_DELETE, 0, 3, 50);
        Due.is("nothing ahead of the others", y.update(0, 0, 100), 100);
        Due.is("its rule has fired for each", y.rule(11, 11), 100);
        RuleDepths z = hundred();
        z.addRule(UPDATE, 0, 0, 2, 0, 0, 0);
        z.setCondition(11, 3, 2, 2);
        Due.is("one that is skipped is counted", z.update(0, 0, 100), 100);
        Due.is("row 2", z.field(2, 0), 0);
    }

    private static void operationsOfEachStatement() {
        RuleDepths x = hundred();
        Due.is("two statements with 100 each", Due.performed(x, "u0.0=100;u0.0=200"), 2);
        Due.is("operations", x.total(6), 203);
        Due.is("and one more call", x.update(0, 0, 300), 100);
        x.addRule(UPDATE, 1, 99, CAUSE_UPDATE, 1, 0, 0);
        x.setCondition(11, 3, 2, 0);
        x.setCondition(11, 0, 2, 500);
        Due.is("the second one has 101", Due.performed(x, "u0.0=400;u0.0=500"), REFUSED);
        Due.is("row 0", x.field(0, 0), 300);
    }

    private static void imageOfEachEvent() {
        Due.sentence("OPERATIONS",
                "The image is, for an insert, the new row; for an update the row with the new value; for a delete the "
                + "row.");
        RuleDepths x = new RuleDepths();
        x.insert(5, 1, 2, 3);
        x.addRule(UPDATE, 0, 0, 1, 0, 0, 0);
        x.setCondition(0, 1, 2, 2);
        Due.is("the old value does not count", x.update(5, 1, 7), 1);
        Due.is("the new value does", x.update(5, 1, 2), REFUSED);
        x.setCondition(0, 2, 2, 3);
        Due.is("the other fields are those of the row", x.update(5, 1, 2), REFUSED);
        x.setCondition(0, 3, 2, 5);
        Due.is("its key too", x.update(5, 1, 2), REFUSED);
        x.addRule(DELETE, 0, 0, 1, 0, 0, 0);
        x.setCondition(1, 1, 2, 7);
        Due.is("the row of a delete", x.delete(5), REFUSED);
        x.setCondition(1, 1, 3, 7);
        Due.is("the row of a delete", x.delete(5), 1);
    }

    private static void ranksThenNumbers() {
        Due.sentence("OPERATIONS",
                "Then the rules before this event are gone through in the order of their ranks, of the same rank in "
                + "the order of their numbers.");
        RuleDepths x = new RuleDepths();
        int[] ranks = {99, 7, 0, 7, 99, 0, 98, 1};
        for (int number = 0; number < ranks.length; number++) {
            x.addRule(INSERT, 0, ranks[number], 0, 0, 0, 0);
        }
        for (int number = 8; number < 12; number++) {
            x.addRule(INSERT, 1, ranks[number - 8], CAUSE_DELETE, 0, 3, 50);
        }
        Due.is("insert", x.insert(1, 0, 0, 0), 1);
        int[] order = {2, 5, 7, 1, 3, 6, 0, 4, 10, 9, 11, 8};
        for (int index = 0; index < order.length; index++) {
            Due.is("firing " + index, x.firing(index, 0), order[index]);
            boolean before = index < 8;
            Due.is("place of " + index, x.order(INSERT, before ? 0 : 1, before ? index : index - 8), order[index]);
        }
        x.removeRule(2);
        Due.is("insert without the rule 2", x.insert(2, 0, 0, 0), 1);
        int[] left = {4, 6, 1, 2, 5, 0, 3, 9, 8, 10, 7};
        for (int index = 0; index < left.length; index++) {
            Due.is("firing " + index + " without the rule 2", x.firing(index, 0), left[index]);
        }
    }

    private static void conditionsAsTheImageIsThen() {
        Due.sentence("OPERATIONS",
                "A rule that is on, and whose condition holds for the image (as it is then), fires for the image. A "
                + "set changes the image.");
        RuleDepths x = new RuleDepths();
        x.addRule(INSERT, 0, 1, 0, 0, 0, 1);
        x.addRule(INSERT, 0, 2, 0, 0, 0, 1);
        x.addRule(INSERT, 0, 3, 0, 0, 0, 1);
        x.setCondition(0, 0, 2, 0);
        x.setCondition(1, 0, 2, 1);
        x.setCondition(2, 0, 2, 1);
        Due.is("insert", x.insert(1, 0, 0, 0), 1);
        Due.is("the rule 1 sees what the rule 0 has set; the rule 2 does not hold any more", x.field(1, 0), 2);
        record("insert", x, new int[] {0, 1, 1}, new int[] {1, 1, 1});
        x.put(0, false);
        Due.is("insert", x.insert(2, 0, 0, 0), 1);
        Due.is("a rule that is off sets nothing", x.field(2, 0), 0);
        record("insert without a firing", x);
    }

    private static void skipEndsTheOperation() {
        Due.sentence("OPERATIONS", "With a skip, the operation ends at once.");
        RuleDepths x = new RuleDepths();
        x.insert(1, 0, 0, 0);
        x.addRule(UPDATE, 0, 5, 2, 0, 0, 0);
        x.addRule(UPDATE, 0, 6, 1, 0, 0, 0);
        x.addRule(UPDATE, 1, 0, 1, 0, 0, 0);
        x.addRule(UPDATE, 0, 4, 0, 0, 0, 0);
        Due.is("neither the rule behind it nor one after fires", x.update(1, 0, 9), 1);
        Due.is("the update is not carried out", x.field(1, 0), 0);
        record("update", x, new int[] {3, 1, 1}, new int[] {0, 1, 1});
        Due.is("statements", x.total(5), 2);
        Due.is("operations", x.total(6), 2);
        Due.is("states: it is a change", x.undo(), 3);
    }

    private static void updateThatIsAsTheRowWas() {
        Due.sentence("OPERATIONS",
                "The operation is carried out: the image is inserted, or takes the place of the row, or the row is "
                + "deleted. (It is carried out in step 3 also if the image of an update is as the row was by now.)");
        RuleDepths x = new RuleDepths();
        x.insert(1, 5, 5, 5);
        x.addRule(UPDATE, 0, 0, 0, 0, 1, 0);
        x.addRule(UPDATE, 1, 0, CAUSE_INSERT, 0, 3, 1);
        x.addRule(INSERT, 1, 0, CAUSE_INSERT, 0, 3, 98);
        Due.is("the rules after it fire", x.update(1, 0, 9), 2);
        Due.is("the row", x.field(1, 0), 5);
        Due.is("the row 2", x.field(2, 0), 5);
        Due.is("statements", x.total(5), 2);
        record("update", x, new int[] {0, 1, 1}, new int[] {1, 1, 1}, new int[] {2, 2, 2});
        RuleDepths y = new RuleDepths();
        y.insert(1, 5, 5, 5);
        y.addRule(UPDATE, 0, 0, 0, 0, 1, 0);
        Due.is("without a rule after it", y.update(1, 0, 9), 1);
        Due.is("it counts", y.total(5), 2);
        Due.is("it is a change", y.undo(), 2);
    }

    private static void afterRulesLookAtTheImage() {
        Due.sentence("OPERATIONS",
                "The rules after this event are gone through in the same order; which of them fire is decided one by "
                + "one, by the image as it was carried out.");
        RuleDepths x = new RuleDepths();
        Due.rows(x, 98, 99);
        Due.rows(x, 0, 0);
        x.addRule(UPDATE, 1, 2, CAUSE_UPDATE, 0, 0, 1);
        x.addRule(UPDATE, 1, 1, CAUSE_DELETE, 0, 3, 0);
        x.setCondition(0, 3, 2, 99);
        x.setCondition(1, 3, 2, 99);
        Due.is("the row 99 is gone, but its image causes an update", x.update(99, 0, 7), 3);
        Due.is("row 99", x.field(99, 0), UNKNOWN);
        Due.is("row 0", x.field(0, 0), 8);
        RuleDepths y = new RuleDepths();
        Due.rows(y, 0, 3);
        // 0: the row 1 becomes 6; there 2: the row 2 becomes 7; 1 is decided by the image of the row 0 (5), and
        // behind it 2 fires again, but the row 2 is 7 already.
        y.addRule(UPDATE, 1, 0, CAUSE_UPDATE, 0, 0, 1);
        y.addRule(UPDATE, 1, 1, CAUSE_UPDATE, 1, 0, 0);
        y.addRule(UPDATE, 1, 2, CAUSE_UPDATE, 0, 0, 1);
        y.setCondition(0, 0, 2, 5);
        y.setCondition(1, 0, 2, 5);
        y.setCondition(2, 0, 2, 6);
        Due.is("update", y.update(0, 0, 5), 4);
        Due.is("row 1, zero", y.field(1, 0), 6);
        Due.is("row 1, one", y.field(1, 1), 5);
        Due.is("row 2, zero", y.field(2, 0), 7);
        record("update", y, new int[] {0, 1, 0}, new int[] {2, 2, 1}, new int[] {1, 1, 0}, new int[] {2, 2, 1});
        RuleDepths z = new RuleDepths();
        Due.rows(z, 0, 1);
        // The row 0 is deleted by 0, and inserted again by 1, with another value by 2; 3 has the image with 7.
        z.addRule(UPDATE, 1, 0, CAUSE_DELETE, 0, 3, 0);
        z.addRule(DELETE, 1, 0, CAUSE_INSERT, 0, 3, 0);
        z.addRule(INSERT, 0, 0, 0, 0, 0, 50);
        z.addRule(UPDATE, 1, 1, CAUSE_UPDATE, 0, 0, 1);
        z.setCondition(0, 3, 2, 0);
        z.setCondition(3, 0, 2, 7);
        Due.is("the row has another value by now", z.update(0, 0, 7), 4);
        Due.is("row 0", z.field(0, 0), 57);
        Due.is("row 1", z.field(1, 0), 8);
    }

    /** Rows from 0 on, of which each updates the next one if its key is less than a number. */
    private static RuleDepths chain(int rows, int firing) {
        RuleDepths x = new RuleDepths();
        Due.rows(x, 0, rows - 1);
        x.addRule(UPDATE, 1, 0, CAUSE_UPDATE, 0, 0, 1);
        x.setCondition(0, 3, 0, firing);
        return x;
    }

    private static void greatestDepths() {
        Due.sentence("OPERATIONS",
                "By a kind from 3 on, an operation of the depth d + 1 is done; but if d is the greatest depth (a "
                + "setting), the statement is refused (reason 2)");
        for (int depth = 1; depth <= 8; depth++) {
            RuleDepths x = chain(10, depth - 1);
            x.set(0, depth);
            Due.is("operations up to the depth " + depth, x.update(0, 0, 5), depth);
            Due.is("the last row", x.field(depth - 1, 0), 4 + depth);
            Due.is("the row behind it", x.field(depth, 0), 0);
            Due.is("greatest depth", x.total(8), depth);
            RuleDepths y = chain(10, depth);
            y.set(0, depth);
            updated("one deeper than " + depth, y, 0, 0, 5, 2, 0, depth, depth, depth);
            Due.is("one deeper than " + depth, y.update(0, 0, 5), REFUSED);
            Due.is("the first row", y.field(0, 0), 0);
            Due.is("greatest depth", y.total(8), 1);
        }
        RuleDepths x = chain(10, 3);
        Due.is("the first greatest depth is 4", x.update(0, 0, 5), 4);
        x.setCondition(0, 3, 0, 4);
        Due.is("and not 5", x.update(0, 0, 6), REFUSED);
    }

    private static void tooDeepThoughNothing() {
        Due.sentence("OPERATIONS", "the statement is refused (reason 2), also if that operation would be nothing");
        int[][] nothing = {{CAUSE_INSERT, 3, 0}, {CAUSE_INSERT, 3, 100}, {CAUSE_INSERT, 3, -100},
            {CAUSE_UPDATE, 3, 0}, {CAUSE_DELETE, 3, 1}, {CAUSE_DELETE, 3, -100}};
        for (int[] n : nothing) {
            RuleDepths x = new RuleDepths();
            x.set(0, 1);
            x.insert(5, 0, 0, 0);
            x.addRule(UPDATE, 1, 0, n[0], 0, n[1], n[2]);
            updated("kind " + n[0], x, 5, 1, 9, 2, 0, 1, 1, 1);
            Due.is("kind " + n[0], x.update(5, 1, 9), REFUSED);
            x.set(0, 2);
            Due.is("one depth more, kind " + n[0], x.update(5, 1, 9), 1);
        }
        RuleDepths x = chain(3, 3);
        x.set(0, 3);
        Due.is("the row 3 is not there", x.update(0, 0, 1), REFUSED);
        x.set(0, 4);
        Due.is("one depth more", x.update(0, 0, 1), 3);
        RuleDepths y = new RuleDepths();
        y.set(0, 1);
        y.addRule(INSERT, 1, 0, CAUSE_INSERT, 0, 3, 0);
        Due.is("the row itself is there already", y.insert(4, 0, 0, 0), REFUSED);
        Due.is("rows", y.total(0), 0);
    }

    private static void tooDeepOrTooMany() {
        // The rule fires on the depth 3 for the last one of 100 operations.
        RuleDepths x = hundred();
        x.addRule(UPDATE, 1, 0, CAUSE_DELETE, 0, 3, -2);
        x.setCondition(11, 0, 2, 119);
        x.set(0, 3);
        updated("100 operations at the greatest depth", x, 0, 0, 100, 2, 11, 100, 100, 3);
        x.set(0, 4);
        updated("100 operations, one depth more", x, 0, 0, 100, 3, 11, 100, 100, 3);
        x.setCondition(11, 0, 2, 118);
        // It fires twice: the row 0 is deleted, and then is not there any more.
        updated("on the depth 4, ahead of the 100th", x, 0, 0, 100, 3, 7, 100, 101, 4);
    }

    private static void noCauseNoDepth() {
        RuleDepths x = new RuleDepths();
        x.set(0, 1);
        x.insert(1, 0, 0, 0);
        x.addRule(UPDATE, 0, 0, 0, 1, 0, 0);
        Due.is("a set is not too deep", x.update(1, 0, 1), 1);
        x.addRule(UPDATE, 1, 1, CAUSE_DELETE, 0, 3, 0);
        x.put(1, false);
        Due.is("a rule that is off is not", x.update(1, 0, 2), 1);
        x.put(1, true);
        x.setCondition(1, 0, 2, 99);
        Due.is("one whose condition does not hold is not", x.update(1, 0, 3), 1);
        x.addRule(UPDATE, 1, 1, 1, 0, 0, 0);
        updated("a refusal at the greatest depth has the reason 1", x, 1, 0, 4, 1, 2, 1, 2, 1);
        x.removeRule(2);
        x.addRule(UPDATE, 0, 1, 2, 0, 0, 0);
        Due.is("a skip at the greatest depth", x.update(1, 0, 99), 1);
    }

    private static void guarding() {
        Due.sentence("OPERATIONS",
                "With the setting of guarding on, a rule that is firing (that is, an operation that it caused is not "
                + "finished yet) does not fire again meanwhile.");
        RuleDepths x = chain(8, 6);
        x.set(0, 8);
        Due.is("guarding is off", x.update(0, 0, 1), 7);
        x.set(1, 1);
        Due.is("guarding is on", x.update(0, 0, 2), 2);
        record("guarding", x, new int[] {0, 1, 0});
        x.set(1, 0);
        Due.is("guarding is off again", x.update(0, 0, 3), 7);
        RuleDepths y = new RuleDepths();
        Due.rows(y, 0, 3);
        y.set(1, 1);
        y.addRule(UPDATE, 0, 0, 0, 2, 0, 0);
        y.addRule(UPDATE, 1, 0, CAUSE_INSERT, 0, 3, 50);
        y.addRule(INSERT, 1, 0, CAUSE_UPDATE, 1, 3, 0);
        y.insert(51, 0, 0, 0);
        // The rule 1 inserts the row 50, the rule 2 updates the row 51: a set fires again, the rule 1 does not.
        Due.is("by way of another rule", y.update(0, 0, 5), 3);
        record("by way of another rule", y, new int[] {0, 1, 0}, new int[] {1, 1, 0}, new int[] {2, 2, 50},
                new int[] {0, 3, 51});
    }

    private static void guardingMeanwhile() {
        RuleDepths x = new RuleDepths();
        Due.rows(x, 0, 2);
        x.set(1, 1);
        x.addRule(UPDATE, 1, 0, CAUSE_DELETE, 0, 3, 50);
        x.addRule(UPDATE, 1, 1, CAUSE_UPDATE, 0, 0, 1);
        Due.is("update", x.update(0, 0, 5), 2);
        record("an operation that was nothing is finished", x, new int[] {0, 1, 0}, new int[] {1, 1, 0},
                new int[] {0, 2, 1});
        RuleDepths y = new RuleDepths();
        Due.rows(y, 0, 2);
        y.set(1, 1);
        y.addRule(UPDATE, 1, 0, CAUSE_UPDATE, 0, 0, 1);
        y.addRule(UPDATE, 1, 1, CAUSE_UPDATE, 1, 0, 20);
        y.setCondition(1, 3, 2, 0);
        // 0 updates the row 1 and has finished; 1 updates the row 1, there 0 fires again, for the row 2.
        Due.is("update", y.update(0, 0, 5), 4);
        record("it fires again when it has finished", y, new int[] {0, 1, 0}, new int[] {1, 1, 0},
                new int[] {0, 2, 1});
        Due.is("row 2", y.field(2, 0), 7);
        Due.is("the next statement of a text", Due.performed(y, "u0.0=1;u0.0=2"), 2);
        Due.is("firings", y.rule(0, 11), 6);
        RuleDepths z = chain(3, 3);
        z.set(1, 1);
        z.addRule(UPDATE, 0, 0, 1, 0, 0, 0);
        z.setCondition(1, 3, 2, 1);
        Due.is("refused while the rule 0 is firing", z.update(0, 0, 1), REFUSED);
        z.put(1, false);
        Due.is("it is not firing any more", z.update(0, 0, 1), 2);
        record("it is not firing any more", z, new int[] {0, 1, 0});
    }

    private static void guardingAtTheGreatestDepth() {
        RuleDepths x = chain(8, 8);
        x.set(0, 2);
        x.set(1, 1);
        Due.is("a rule that is held back is not too deep", x.update(0, 0, 1), 2);
        x.set(0, 1);
        Due.is("the first firing is too deep", x.update(0, 0, 2), REFUSED);
        x.set(0, 2);
        Due.is("as before", x.update(0, 0, 2), 2);
    }

    private static void nothingRemains() {
        Due.sentence("OPERATIONS", "If a statement is refused, nothing of it remains.");
        for (int reason = 1; reason <= 3; reason++) {
            int why = reason;
            RuleDepths x = new RuleDepths();
            refusing(x, why);
            Due.is("the reason", x.ifUpdated(0, 0, 600, 0), why);
            Due.is("the depth", x.ifUpdated(0, 0, 600, 4), 3);
            Twins.unchanged("an update that is refused for the reason " + why, y -> refusing(y, why),
                    y -> y.update(0, 0, 600), REFUSED);
        }
        RuleDepths x = new RuleDepths();
        refusing(x, 2);
        x.update(0, 0, 600);
        Due.is("firings of the rule 0", x.rule(0, 11), 1);
        Due.is("statements", x.total(5), 4);
        Due.is("operations", x.total(6), 5);
        Due.is("firings", x.total(7), 1);
        Due.is("depth", x.total(8), 2);
        record("as before", x, new int[] {0, 1, 1});
    }

    /** Makes the update of the row 0 (its field 0 to 600) one that is refused after several operations. */
    private static void refusing(RuleDepths x, int reason) {
        for (int key = 0; key < 3; key++) {
            x.insert(key, 0, 0, 0);
        }
        int rules = reason == 3 ? 11 : 1;
        for (int rule = 0; rule < rules; rule++) {
            x.addRule(UPDATE, 1, 5, CAUSE_UPDATE, 0, 0, rule + 1);
            x.setCondition(rule, 3, 1, rule < 8 ? 1 : 0);
        }
        x.addRule(UPDATE, 1, 9, reason == 1 ? 1 : reason == 2 ? CAUSE_INSERT : CAUSE_UPDATE, 1, 3, 40);
        x.setCondition(rules, 3, 2, reason == 3 ? 0 : 2);
        Due.typed(x, "i9=1,2,3;d9;u0.1=5");
        x.keep();
        x.put(rules, false);
        x.update(1, 0, 7);
        x.put(rules, true);
        x.set(0, 3);
    }

    private static void reasons() {
        Due.sentence("OPERATIONS",
                "The reasons are 1 (by a rule), 2 and 3, as told; the refusing rule is the one by which it is refused");
        RuleDepths x = chain(5, 9);
        x.addRule(UPDATE, 0, 0, 1, 0, 0, 0);
        x.setCondition(1, 3, 2, 2);
        updated("by a rule, on the depth 3", x, 0, 0, 1, 1, 1, 3, 3, 3);
        x.set(0, 2);
        updated("too deep ahead of it", x, 0, 0, 1, 2, 0, 2, 2, 2);
        x.setCondition(1, 3, 2, 0);
        updated("by a rule at once", x, 0, 0, 1, 1, 1, 1, 1, 1);
        x.setCondition(0, 3, 0, 1);
        x.setCondition(1, 3, 2, 9);
        updated("not refused", x, 0, 0, 1, 0, NONE, 2, 1, 2);
        x.addRule(UPDATE, 1, 0, 1, 0, 0, 0);
        x.setCondition(2, 3, 2, 0);
        updated("by a rule after, behind a caused operation", x, 0, 0, 1, 1, 2, 2, 2, 2);
        x.addRule(UPDATE, 1, 0, 1, 0, 0, 0);
        updated("by the first rule that refuses", x, 3, 0, 1, 1, 3, 1, 1, 1);
        updated("by the caused one's", x, 0, 0, 1, 1, 3, 2, 2, 2);
    }

    private static void ruleOfTheHundredAndFirst() {
        Due.sentence("OPERATIONS",
                "(for the reason 3 the rule that caused the operation that would be the 101st one)");
        RuleDepths x = hundred();
        x.addRule(UPDATE, 1, 0, CAUSE_UPDATE, 1, 0, 0);
        x.setCondition(11, 3, 2, 0);
        // The rule 11 comes first: 1 + (1 + 8), then 9 for each of the rules 0 to 9: the rule 10 causes the 101st.
        updated("on the depth 2", x, 0, 0, 100, 3, 10, 100, 1 + 8 + 10 * 9 + 1, 3);
        x.addRule(0, 0, 0, 0, 0, 0, 0);
        x.removeRule(11);
        x.addRule(UPDATE, 1, 0, CAUSE_DELETE, 0, 3, 90);
        x.setCondition(11, 3, 2, 0);
        x.insert(90, 0, 0, 0);
        // One operation by the rule 11 first, then 11 times 9: the last one of the rule 7 is the 101st.
        updated("on the depth 3", x, 0, 0, 100, 3, 7, 100, 1 + 11 * 9, 3);
    }

    private static void firstSixty() {
        Due.sentence("RECORD",
                "The firings of the latest statement that was not refused, and was not nothing, are recorded, at most "
                + "the first 60 of them: the rule, the depth, and the key of the row for which it fired");
        for (int firings = 59; firings <= 61; firings++) {
            // 11 sets and a caused update for each of the rows 0 to 4; the row 4 or the row 5 is the last one.
            RuleDepths x = new RuleDepths();
            Due.rows(x, 0, 5);
            for (int rule = 0; rule < 11; rule++) {
                x.addRule(UPDATE, 0, 3, 0, 1, 0, rule);
                x.setCondition(rule, 3, 0, 5);
            }
            x.addRule(UPDATE, 1, 0, CAUSE_UPDATE, 0, 0, 1);
            x.setCondition(11, 3, 0, firings == 59 ? 4 : firings == 60 ? 5 : 6);
            x.set(0, 8);
            Due.is("update", x.update(0, 0, 5), firings == 59 ? 5 : 6);
            Due.is("firings", x.total(7), firings);
            Due.is("recorded", x.total(9), Math.min(60, firings));
            Due.is("firing(58, 0)", x.firing(58, 0), 10);
            Due.is("firing(58, 1)", x.firing(58, 1), 5);
            Due.is("firing(58, 2)", x.firing(58, 2), 4);
            Due.is("firing(59, 0)", x.firing(59, 0), firings == 59 ? NONE : 11);
            Due.is("firing(59, 1)", x.firing(59, 1), firings == 59 ? NONE : 5);
            Due.is("firing(59, 2)", x.firing(59, 2), firings == 59 ? NONE : 4);
            Due.is("firing(60, 0)", x.firing(60, 0), NONE);
            Due.is("firings of the rule 11", x.rule(11, 11), firings - 55);
        }
    }

    private static void recordOfTheLatest() {
        RuleDepths x = new RuleDepths();
        x.addRule(INSERT, 0, 0, 0, 0, 0, 1);
        x.addRule(DELETE, 0, 0, 1, 0, 0, 0);
        record("no statement", x);
        x.insert(99, 0, 0, 0);
        record("insert", x, new int[] {0, 1, 99});
        x.update(99, 0, 1);
        record("a statement that was nothing", x, new int[] {0, 1, 99});
        x.delete(99);
        record("a statement that was refused", x, new int[] {0, 1, 99});
        x.insert(99, 0, 0, 0);
        x.insert(100, 0, 0, 0);
        x.delete(50);
        record("calls with errors", x, new int[] {0, 1, 99});
        x.ifInserted(0, 0, 0, 0, 3);
        record("a question", x, new int[] {0, 1, 99});
        x.update(99, 0, 2);
        record("a statement without a firing", x);
        Due.sentence("RECORD", "(for several statements of a text: of the last one)");
        Due.is("perform", Due.performed(x, "i1=0,0,0;i2=0,0,0;i0=0,0,0"), 3);
        record("of the last one", x, new int[] {0, 1, 0});
        Due.is("perform", Due.performed(x, "i5=0,0,0;u5.1=9"), 2);
        record("the last one had no firing", x);
        Due.is("perform", Due.performed(x, "i6=0,0,0;u6.0=1;u5.1=9"), 3);
        record("the last ones were nothing", x, new int[] {0, 1, 6});
        Due.is("perform", Due.performed(x, "i7=0,0,0;i7=0,0,0"), DUPLICATE);
        record("an error", x, new int[] {0, 1, 6});
        Due.is("perform", Due.performed(x, "i7=0,0,0;d7"), REFUSED);
        record("refused", x, new int[] {0, 1, 6});
        Due.is("perform", Due.performed(x, "u5.1=9"), 1);
        record("nothing at all", x, new int[] {0, 1, 6});
    }
}
