/** The boundary cases of the terms ROWS and RULES, sentence by sentence. */
public final class EdgesOfRowsAndRulesTest {
    private static final int UNKNOWN = -1001;
    private static final int OUT_OF_RANGE = -1002;
    private static final int FULL = -1003;
    private static final int DUPLICATE = -1004;
    private static final int REFUSED = -1005;
    private static final int NONE = -1006;

    private static final int INSERT = 0;
    private static final int UPDATE = 1;
    private static final int DELETE = 2;

    public static void main(String[] args) {
        twentyRows();
        keysOfRows();
        oneRowForAKey();
        valuesOfFields();
        twelveRules();
        numbersBecomeLess();
        partsOfARule();
        onAtFirst();
        partsOfACondition();
        comparisonsAroundTheirNumber();
        comparisonsAtTheEnds();
        comparisonsWithTheKey();
        partsOfAnAction();
        valuesAreHeldAtTheirBounds();
        valuesOfTheKeyAreHeld();
        setOfADelete();
        refuseAndSkip();
        refuseAfter();
        insertOfTheValue();
        updateOfTheNextKey();
        deleteOfTheValue();
        Due.end();
    }

    // ---- ROWS

    private static void twentyRows() {
        Due.sentence("ROWS", "There is one table with at most 20 rows.");
        RuleDepths x = new RuleDepths();
        Due.is("rows of the empty table", x.total(0), 0);
        Due.rows(x, 80, 98);
        Due.is("rows", x.total(0), 19);
        Due.is("the 20th row", x.insert(3, 0, 0, 0), 1);
        Due.is("rows", x.total(0), 20);
        Due.is("the 21st row", x.insert(99, 0, 0, 0), FULL);
        Due.is("rows", x.total(0), 20);
        Due.is("there is no row 99", x.field(99, 0), UNKNOWN);
        Due.is("one less", x.delete(90), 1);
        Due.is("again a 20th row", x.insert(99, 0, 0, 0), 1);
        Due.is("again a 21st row", x.insert(90, 0, 0, 0), FULL);
        for (int key = 0; key < 20; key++) {
            RuleDepths full = new RuleDepths();
            Due.rows(full, 0, 19);
            Due.is("delete of one of 20", full.delete(key), 1);
            for (int rank = 0; rank < 19; rank++) {
                Due.is("keyAt(" + rank + ") without " + key, full.keyAt(rank), rank < key ? rank : rank + 1);
            }
            Due.is("no 20th row", full.keyAt(19), NONE);
        }
    }

    private static void keysOfRows() {
        Due.sentence("ROWS", "A row has a key (0 to 99; ..)");
        Due.range("insert of the key", 0, 99, v -> 1, OUT_OF_RANGE, v -> new RuleDepths().insert(v, 0, 0, 0));
        RuleDepths x = new RuleDepths();
        for (int key : new int[] {99, 0, 98, 1}) {
            Due.is("insert of the key " + key, x.insert(key, key, key, key), 1);
        }
        int[] keys = {0, 1, 98, 99, NONE};
        for (int rank = 0; rank < keys.length; rank++) {
            Due.is("keyAt(" + rank + ")", x.keyAt(rank), keys[rank]);
            Due.is("field of " + keys[rank], x.field(keys[rank], 2), rank < 4 ? keys[rank] : UNKNOWN);
        }
    }

    private static void oneRowForAKey() {
        Due.sentence("ROWS", "no two rows have the same key");
        for (int key : new int[] {0, 50, 99}) {
            RuleDepths x = new RuleDepths();
            Due.is("insert of " + key, x.insert(key, 1, 2, 3), 1);
            Due.is("the same key again", x.insert(key, 4, 5, 6), DUPLICATE);
            Due.is("the same row again", x.insert(key, 1, 2, 3), DUPLICATE);
            Due.is("rows", x.total(0), 1);
            Due.is("the row is as it was", x.field(key, 0), 1);
            Due.is("delete", x.delete(key), 1);
            Due.is("then it may be inserted", x.insert(key, 4, 5, 6), 1);
        }
    }

    private static void valuesOfFields() {
        Due.sentence("ROWS", "three fields 0 to 2 with values from -999 to 999");
        for (int field = 0; field < 3; field++) {
            int f = field;
            Due.range("inserted field " + f + ", value", -999, 999, v -> v, OUT_OF_RANGE, v -> {
                RuleDepths x = new RuleDepths();
                int answer = x.insert(7, f == 0 ? v : 1, f == 1 ? v : 1, f == 2 ? v : 1);
                return answer == 1 ? x.field(7, f) : answer;
            });
            Due.range("updated field " + f + ", value", -999, 999, v -> v, OUT_OF_RANGE, v -> {
                RuleDepths x = new RuleDepths();
                x.insert(7, 1, 1, 1);
                int answer = x.update(7, f, v);
                return answer == 1 ? x.field(7, f) : answer;
            });
            RuleDepths x = new RuleDepths();
            x.insert(7, 10, 11, 12);
            x.update(7, f, -5);
            for (int other = 0; other < 3; other++) {
                Due.is("after the update of the field " + f + " the field " + other, x.field(7, other),
                        other == f ? -5 : 10 + other);
            }
        }
        Due.range("the fields of a row", 0, 2, v -> 10 + v, OUT_OF_RANGE, v -> {
            RuleDepths x = new RuleDepths();
            x.insert(7, 10, 11, 12);
            return x.field(7, v);
        });
    }

    // ---- RULES

    private static void twelveRules() {
        Due.sentence("RULES", "There are at most 12 rules, numbered from 0 in the order in which they are added");
        RuleDepths x = new RuleDepths();
        Due.is("without a rule", x.total(1), 0);
        Due.is("there is no rule 0", x.rule(0, 0), UNKNOWN);
        for (int number = 0; number < 12; number++) {
            Due.is("addRule", x.addRule(number % 3, 0, 20 - number, 0, 0, 0, number), number);
        }
        Due.is("the 13th rule", x.addRule(0, 0, 0, 0, 0, 0, 0), FULL);
        Due.is("rules", x.total(1), 12);
        for (int number = 0; number < 12; number++) {
            Due.is("c of the rule " + number, x.rule(number, 6), number);
        }
        Due.is("there is no rule 12", x.rule(12, 6), UNKNOWN);
        Due.is("removeRule", x.removeRule(4), 11);
        Due.is("again a 12th rule", x.addRule(0, 0, 0, 0, 0, 0, 77), 11);
        Due.is("its c", x.rule(11, 6), 77);
        Due.is("again a 13th rule", x.addRule(0, 0, 0, 0, 0, 0, 0), FULL);
    }

    private static void numbersBecomeLess() {
        Due.sentence("RULES", "when one is removed, the numbers of those behind it become less by 1");
        for (int removed : new int[] {0, 1, 10, 11}) {
            RuleDepths x = new RuleDepths();
            for (int number = 0; number < 12; number++) {
                x.addRule(INSERT, 0, 50, 0, 0, 0, number);
            }
            Due.is("removeRule(" + removed + ")", x.removeRule(removed), 11);
            for (int number = 0; number < 11; number++) {
                Due.is("c of the rule " + number + " without " + removed, x.rule(number, 6),
                        number < removed ? number : number + 1);
                Due.is("place " + number + " without " + removed, x.order(INSERT, 0, number), number);
            }
            Due.is("there is no rule 11", x.rule(11, 6), UNKNOWN);
            Due.is("there is no place 11", x.order(INSERT, 0, 11), NONE);
        }
        RuleDepths one = new RuleDepths();
        one.addRule(INSERT, 0, 0, 1, 0, 0, 0);
        Due.is("the only one is removed", one.removeRule(0), 0);
        Due.is("it does not fire any more", one.insert(1, 0, 0, 0), 1);
        Due.is("no place", one.order(INSERT, 0, 0), NONE);
    }

    private static void partsOfARule() {
        Due.sentence("RULES", "A rule has an event (0 insert, 1 update, 2 delete), a moment (0 before, 1 after)");
        for (int event = 0; event < 3; event++) {
            for (int moment = 0; moment < 2; moment++) {
                RuleDepths x = new RuleDepths();
                x.insert(5, 0, 0, 0);
                Due.is("addRule", x.addRule(event, moment, 0, 1, 0, 0, 0), 0);
                Due.is("insert, event " + event, x.insert(6, 0, 0, 0), event == INSERT ? REFUSED : 1);
                Due.is("update, event " + event, x.update(5, 0, 1), event == UPDATE ? REFUSED : 1);
                Due.is("delete, event " + event, x.delete(5), event == DELETE ? REFUSED : 1);
                // Refused before the operation is carried out, or after it: nothing remains.
                Due.is("rows", x.total(0), event == INSERT ? 0 : event == UPDATE ? 1 : 2);
            }
        }
        RuleDepths x = new RuleDepths();
        x.addRule(INSERT, 0, 0, 0, 0, 0, 7);
        x.addRule(INSERT, 1, 0, 1, 0, 0, 0);
        x.setCondition(1, 0, 2, 7);
        Due.is("the moment before comes ahead of the moment after", x.insert(1, 0, 0, 0), REFUSED);
        Due.sentence("RULES", "a rank (0 to 99)");
        RuleDepths y = new RuleDepths();
        y.addRule(INSERT, 0, 99, 0, 0, 0, 1);
        y.addRule(INSERT, 0, 0, 0, 1, 0, 0);
        y.addRule(INSERT, 0, 98, 0, 2, 0, 5);
        y.addRule(INSERT, 0, 1, 0, 0, 1, 10);
        // rank 0: one = 3; rank 1: zero = 3 + 10; rank 98: two = 13 + 5; rank 99: zero = 13 + 1
        Due.is("insert", y.insert(1, 3, 0, 0), 1);
        Due.is("zero", y.field(1, 0), 14);
        Due.is("one", y.field(1, 1), 3);
        Due.is("two", y.field(1, 2), 18);
    }

    private static void onAtFirst() {
        Due.sentence("RULES", "it is on (at first) or off");
        RuleDepths x = new RuleDepths();
        x.addRule(INSERT, 0, 0, 1, 0, 0, 0);
        Due.is("on", x.rule(0, 10), 1);
        Due.is("it fires", x.insert(1, 0, 0, 0), REFUSED);
        Due.is("off then", x.put(0, false), 0);
        Due.is("it does not fire", x.insert(1, 0, 0, 0), 1);
        Due.is("on again", x.put(0, true), 1);
        Due.is("it fires again", x.insert(2, 0, 0, 0), REFUSED);
        x.put(0, false);
        x.removeRule(0);
        x.addRule(INSERT, 0, 0, 1, 0, 0, 0);
        Due.is("a new one is on, where one was off", x.rule(0, 10), 1);
        Due.is("it fires", x.insert(2, 0, 0, 0), REFUSED);
    }

    /** The answer of an insert with a rule ahead of it that refuses it if its condition holds: REFUSED or 1. */
    private static int guarded(int field, int comparison, int number, int... row) {
        RuleDepths x = new RuleDepths();
        x.addRule(INSERT, 0, 0, 1, 0, 0, 0);
        int answer = x.setCondition(0, field, comparison, number);
        return answer == 0 ? x.insert(row[0], row[1], row[2], row[3]) : answer;
    }

    private static void partsOfACondition() {
        Due.sentence("RULES", "A condition consists of a field (0 to 2, or 3 for the key)");
        int[] keyAndFields = {40, 41, 42, 43};
        for (int field = 0; field < 4; field++) {
            for (int number = 40; number < 44; number++) {
                boolean held = number == (field == 3 ? 40 : 41 + field);
                Due.is("field " + field + " equal " + number, guarded(field, 2, number, keyAndFields),
                        held ? REFUSED : 1);
            }
        }
        Due.range("the condition's field", 0, 3, v -> 1, OUT_OF_RANGE, v -> guarded(v, 2, 7, 1, 0, 0, 0));
        Due.sentence("RULES", "a number from -999 to 999");
        Due.range("the condition's number", -999, 999, v -> 1, OUT_OF_RANGE, v -> guarded(0, 2, v, 1, 0, 0, 0));
    }

    /** Whether the comparisons 0 to 5 hold for a value that is less than the number, equal to it, greater. */
    private static final boolean[][] HOLDS = {
        {true, false, false}, {true, true, false}, {false, true, false},
        {true, false, true}, {false, true, true}, {false, false, true},
    };

    private static void comparisonsAroundTheirNumber() {
        Due.sentence("RULES",
                "a comparison (0 less, 1 at most, 2 equal, 3 not equal, 4 at least, 5 greater) and a number ..; "
                + "it holds for a row if the field of the row compares so with the number");
        for (int comparison = 0; comparison < 6; comparison++) {
            for (int number : new int[] {-998, -1, 0, 1, 998}) {
                for (int beyond = -1; beyond <= 1; beyond++) {
                    boolean held = HOLDS[comparison][beyond + 1];
                    Due.is("comparison " + comparison + " of " + (number + beyond) + " with " + number,
                            guarded(1, comparison, number, 50, 0, number + beyond, 0), held ? REFUSED : 1);
                }
            }
        }
    }

    private static void comparisonsAtTheEnds() {
        for (int comparison = 0; comparison < 6; comparison++) {
            for (int number : new int[] {-999, 999}) {
                for (int value : new int[] {-999, -998, 998, 999}) {
                    boolean held = HOLDS[comparison][Integer.compare(value, number) + 1];
                    Due.is("comparison " + comparison + " of " + value + " with " + number,
                            guarded(2, comparison, number, 50, 0, 0, value), held ? REFUSED : 1);
                }
            }
        }
    }

    private static void comparisonsWithTheKey() {
        for (int comparison = 0; comparison < 6; comparison++) {
            for (int number : new int[] {-999, -1, 0, 1, 98, 99, 100, 999}) {
                for (int key : new int[] {0, 1, 98, 99}) {
                    boolean held = HOLDS[comparison][Integer.compare(key, number) + 1];
                    Due.is("comparison " + comparison + " of the key " + key + " with " + number,
                            guarded(3, comparison, number, key, 0, 0, 0), held ? REFUSED : 1);
                }
            }
        }
    }

    private static void partsOfAnAction() {
        Due.sentence("RULES",
                "An action has a kind, a field a (0 to 2), a field b (0 to 2, or 3 for the key) and a number c "
                + "(-999 to 999).");
        for (int a = 0; a < 3; a++) {
            for (int b = 0; b < 4; b++) {
                RuleDepths x = new RuleDepths();
                x.addRule(INSERT, 0, 0, 0, a, b, 100);
                Due.is("insert", x.insert(40, 41, 42, 43), 1);
                for (int field = 0; field < 3; field++) {
                    int due = field == a ? (b == 3 ? 40 : 41 + b) + 100 : 41 + field;
                    Due.is("set of the field " + a + " by " + b + ": field " + field, x.field(40, field), due);
                }
            }
        }
        for (int c : new int[] {-999, 999}) {
            Due.is("c " + c, setValue(0, c), c);
        }
    }

    /** The field 1 of a row that is inserted with a value, to which a rule sets it with a number c. */
    private static int setValue(int value, int c) {
        RuleDepths x = new RuleDepths();
        x.addRule(INSERT, 0, 0, 0, 1, 0, c);
        x.insert(50, value, 5, 5);
        return x.field(50, 1);
    }

    private static void valuesAreHeldAtTheirBounds() {
        Due.sentence("RULES",
                "the value of the action is the field b of this row plus c, but at least -999 and at most 999");
        int[][] sums = {
            {998, 1, 999}, {999, 0, 999}, {999, 1, 999}, {998, 2, 999}, {999, 999, 999}, {0, 999, 999}, {1, 999, 999},
            {-998, -1, -999}, {-999, 0, -999}, {-999, -1, -999}, {-998, -2, -999}, {-999, -999, -999},
            {0, -999, -999}, {-1, -999, -999}, {999, -1, 998}, {-999, 1, -998}, {999, -999, 0}, {-999, 999, 0},
        };
        for (int[] sum : sums) {
            Due.is("set to " + sum[0] + " plus " + sum[1], setValue(sum[0], sum[1]), sum[2]);
        }
        // The rule's next rule takes the held value, not the sum.
        RuleDepths x = new RuleDepths();
        x.addRule(INSERT, 0, 0, 0, 0, 0, 999);
        x.addRule(INSERT, 0, 1, 0, 0, 0, -999);
        Due.is("insert", x.insert(1, 500, 0, 0), 1);
        Due.is("500 plus 999 is held at 999, then less 999", x.field(1, 0), 0);
        // Also as the value of a caused update.
        RuleDepths y = new RuleDepths();
        y.insert(1, 0, 0, 0);
        y.insert(2, 0, 0, 0);
        y.addRule(UPDATE, 1, 0, 4, 2, 0, 600);
        y.setCondition(0, 3, 2, 1);
        Due.is("update", y.update(1, 0, 400), 2);
        Due.is("held", y.field(2, 2), 999);
        Due.is("held again: nothing", y.update(1, 0, 399), 1);
        Due.is("999 exactly", y.field(2, 2), 999);
        Due.is("998", y.update(1, 0, 398), 2);
        Due.is("998", y.field(2, 2), 998);
    }

    private static void valuesOfTheKeyAreHeld() {
        int[][] sums = {{99, 899, 998}, {99, 900, 999}, {99, 901, 999}, {99, 999, 999}, {0, -999, -999},
            {1, -999, -998}, {0, 999, 999}, {99, -999, -900}};
        for (int[] sum : sums) {
            RuleDepths x = new RuleDepths();
            x.addRule(INSERT, 0, 0, 0, 1, 3, sum[1]);
            x.insert(sum[0], 0, 0, 0);
            Due.is("set to the key " + sum[0] + " plus " + sum[1], x.field(sum[0], 1), sum[2]);
        }
    }

    private static void setOfADelete() {
        Due.sentence("RULES",
                "0 set: .. (for a delete this does nothing to the table, but the rules behind it, those after it too, "
                + "look at the changed image)");
        RuleDepths x = new RuleDepths();
        x.insert(5, 1, 2, 3);
        x.addRule(DELETE, 0, 0, 0, 0, 3, 10);
        x.addRule(DELETE, 0, 1, 0, 1, 0, 10);
        x.addRule(DELETE, 1, 0, 3, 0, 0, 0);
        x.setCondition(1, 0, 2, 15);
        x.setCondition(2, 1, 2, 25);
        Due.is("ifDeleted, firings", x.ifDeleted(5, 3), 3);
        Due.is("delete, and an insert of the changed image", x.delete(5), 2);
        Due.is("the row is gone", x.field(5, 0), UNKNOWN);
        Due.is("rows", x.total(0), 1);
        Due.is("zero", x.field(15, 0), 15);
        Due.is("one", x.field(15, 1), 25);
        Due.is("two", x.field(15, 2), 3);
        RuleDepths y = new RuleDepths();
        y.insert(5, 1, 2, 3);
        y.addRule(DELETE, 0, 0, 0, 0, 0, 500);
        y.addRule(DELETE, 0, 1, 2, 0, 0, 0);
        y.setCondition(1, 0, 2, 501);
        Due.is("the skip behind the set sees its image", y.delete(5), 1);
        Due.is("the set does nothing to the table", y.field(5, 0), 1);
        y.setCondition(1, 0, 2, 1);
        Due.is("it does not see the row", y.delete(5), 1);
        Due.is("so the row is deleted", y.total(0), 0);
    }

    private static void refuseAndSkip() {
        Due.sentence("RULES", "1 refuse: the whole statement is refused; 2 skip: the operation is not carried out.");
        for (int kind = 1; kind <= 2; kind++) {
            RuleDepths x = new RuleDepths();
            x.insert(5, 1, 2, 3);
            for (int event = 0; event < 3; event++) {
                x.addRule(event, 0, 0, kind, 0, 0, 0);
            }
            int due = kind == 1 ? REFUSED : 1;
            Due.is("insert, kind " + kind, x.insert(6, 0, 0, 0), due);
            Due.is("update, kind " + kind, x.update(5, 0, 9), due);
            Due.is("delete, kind " + kind, x.delete(5), due);
            Due.is("rows", x.total(0), 1);
            Due.is("zero", x.field(5, 0), 1);
            Due.is("statements", x.total(5), kind == 1 ? 1 : 4);
        }
        RuleDepths x = new RuleDepths();
        Due.rows(x, 5, 7);
        x.addRule(UPDATE, 1, 0, 4, 0, 0, 1);
        x.addRule(UPDATE, 0, 0, 1, 0, 0, 0);
        x.setCondition(1, 3, 2, 7);
        Due.is("a caused operation is refused", x.update(5, 0, 1), REFUSED);
        Due.is("so the whole statement is", x.field(5, 0), 0);
        Due.is("the operation between too", x.field(6, 0), 0);
        x.removeRule(1);
        x.addRule(UPDATE, 0, 0, 2, 0, 0, 0);
        x.setCondition(1, 3, 2, 7);
        Due.is("a caused operation is skipped", x.update(5, 0, 1), 3);
        Due.is("those ahead of it stay", x.field(5, 0) + x.field(6, 0), 3);
        Due.is("it alone is not carried out", x.field(7, 0), 0);
    }

    private static void refuseAfter() {
        Due.sentence("RULES", "Kinds for the moment after: 1 refuse, as before");
        RuleDepths x = new RuleDepths();
        x.insert(5, 1, 2, 3);
        for (int event = 0; event < 3; event++) {
            x.addRule(event, 1, 0, 1, 0, 0, 0);
        }
        Due.is("insert", x.insert(6, 0, 0, 0), REFUSED);
        Due.is("update", x.update(5, 0, 9), REFUSED);
        Due.is("delete", x.delete(5), REFUSED);
        Due.is("no row 6", x.field(6, 0), UNKNOWN);
        Due.is("row 5", x.field(5, 0), 1);
        Due.is("rows", x.total(0), 1);
    }

    private static void insertOfTheValue() {
        Due.sentence("RULES",
                "3 insert: the operation is to insert a row whose key is the value, and whose fields are those of the "
                + "row");
        for (int key : new int[] {0, 99}) {
            RuleDepths x = new RuleDepths();
            x.addRule(INSERT, 1, 0, 3, 2, 1, -500);
            x.setCondition(0, 3, 2, 50);
            Due.is("insert, and a row " + key, x.insert(50, -7, 500 + key, 999), 2);
            Due.is("its zero", x.field(key, 0), -7);
            Due.is("its one", x.field(key, 1), 500 + key);
            Due.is("its two", x.field(key, 2), 999);
        }
    }

    private static void updateOfTheNextKey() {
        Due.sentence("RULES",
                "4 update: the operation is to update the row whose key is the key of the row plus 1 (modulo 100): "
                + "its field a becomes the value");
        int[][] keys = {{0, 1}, {1, 2}, {49, 50}, {98, 99}, {99, 0}};
        for (int[] pair : keys) {
            for (int field = 0; field < 3; field++) {
                RuleDepths x = new RuleDepths();
                x.insert(pair[0], 0, 0, 0);
                x.insert(pair[1], 0, 0, 0);
                x.addRule(UPDATE, 1, 0, 4, field, 1, 3);
                x.setCondition(0, 3, 2, pair[0]);
                Due.is("update of the row " + pair[0], x.update(pair[0], 1, 30), 2);
                for (int other = 0; other < 3; other++) {
                    Due.is("field " + other + " of the row " + pair[1] + ", a " + field, x.field(pair[1], other),
                            other == field ? 33 : 0);
                }
            }
        }
        RuleDepths x = new RuleDepths();
        x.insert(99, 0, 0, 0);
        x.addRule(UPDATE, 1, 0, 4, 0, 0, 1);
        Due.is("behind the key 99 comes 0, which is not there", x.update(99, 0, 5), 1);
        x.insert(0, 0, 0, 0);
        x.set(0, 8);
        Due.is("a row 0, and no row 1", x.update(99, 0, 6), 2);
        Due.is("row 0", x.field(0, 0), 7);
    }

    private static void deleteOfTheValue() {
        Due.sentence("RULES", "5 delete: the operation is to delete the row whose key is the value.");
        for (int key : new int[] {0, 1, 98, 99}) {
            RuleDepths x = new RuleDepths();
            Due.rowsOf(x, 0, 1, 50, 98, 99);
            x.addRule(UPDATE, 1, 0, 5, 0, 0, 0);
            Due.is("update to " + key, x.update(50, 0, key == 0 ? -1 : key), key == 0 ? 1 : 2);
            if (key == 0) {
                Due.is("update to 0", x.update(50, 0, 0), 2);
            }
            Due.is("no row " + key, x.field(key, 0), UNKNOWN);
            Due.is("rows", x.total(0), 4);
        }
        RuleDepths x = new RuleDepths();
        x.insert(50, 0, 0, 0);
        x.addRule(UPDATE, 1, 0, 5, 0, 3, 0);
        Due.is("it may be the row itself", x.update(50, 0, 1), 2);
        Due.is("rows", x.total(0), 0);
    }
}
