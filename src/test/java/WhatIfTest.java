/** Promises 22 to 25: what would be. */
public final class WhatIfTest {
    private static final int UNKNOWN = -1001;
    private static final int OUT_OF_RANGE = -1002;
    private static final int FULL = -1003;
    private static final int DUPLICATE = -1004;
    private static final int REFUSED = -1005;
    private static final int NONE = -1006;

    public static void main(String[] args) {
        ifInserted();
        ifUpdated();
        ifDeleted();
        reasons();
        nothingChanges();
        depthFor();
        depthForRefused();
        depthForWithGuarding();
        Due.end();
    }

    private static void reports(String call, int[] got, int... due) {
        for (int what = 0; what < due.length; what++) {
            Due.is(call + ", what " + what, got[what], due[what]);
        }
    }

    private static int[] inserted(RuleDepths x, int key, int zero) {
        int[] got = new int[5];
        for (int what = 0; what < 5; what++) {
            got[what] = x.ifInserted(key, zero, 0, 0, what);
        }
        return got;
    }

    private static int[] updated(RuleDepths x, int key, int field, int value) {
        int[] got = new int[5];
        for (int what = 0; what < 5; what++) {
            got[what] = x.ifUpdated(key, field, value, what);
        }
        return got;
    }

    private static int[] deleted(RuleDepths x, int key) {
        int[] got = new int[5];
        for (int what = 0; what < 5; what++) {
            got[what] = x.ifDeleted(key, what);
        }
        return got;
    }

    private static void ifInserted() {
        RuleDepths x = new RuleDepths();
        x.addRule(0, 1, 0, 3, 0, 3, 1);
        x.setCondition(0, 3, 0, 3);
        reports("ifInserted", inserted(x, 1, 0), 0, NONE, 3, 2, 3);
        reports("ifInserted", inserted(x, 3, 0), 0, NONE, 1, 0, 1);
        Due.is("what -1", x.ifInserted(1, 0, 0, 0, -1), OUT_OF_RANGE);
        Due.is("what 5", x.ifInserted(1, 0, 0, 0, 5), OUT_OF_RANGE);
        Due.is("key -1", x.ifInserted(-1, 0, 0, 0, 0), OUT_OF_RANGE);
        Due.is("key 100", x.ifInserted(100, 0, 0, 0, 0), OUT_OF_RANGE);
        Due.is("zero", x.ifInserted(1, 1000, 0, 0, 0), OUT_OF_RANGE);
        Due.is("one", x.ifInserted(1, 0, -1000, 0, 0), OUT_OF_RANGE);
        Due.is("two", x.ifInserted(1, 0, 0, 1000, 0), OUT_OF_RANGE);
        Due.rows(x, 50, 68);
        Due.is("duplicate, what 5", x.ifInserted(50, 0, 0, 0, 5), DUPLICATE);
        Due.is("duplicate", x.ifInserted(50, 0, 0, 0, 0), DUPLICATE);
        Due.is("zero, duplicate", x.ifInserted(50, 1000, 0, 0, 0), OUT_OF_RANGE);
        reports("the 20th row", inserted(x, 1, 0), 0, NONE, 1, 1, 1);
        Due.rows(x, 69, 69);
        Due.is("full", x.ifInserted(1, 0, 0, 0, 0), FULL);
        Due.is("full, what 5", x.ifInserted(1, 0, 0, 0, 5), FULL);
        Due.is("full, duplicate", x.ifInserted(51, 0, 0, 0, 0), DUPLICATE);
    }

    private static void ifUpdated() {
        RuleDepths x = new RuleDepths();
        Due.rows(x, 0, 5);
        x.addRule(1, 1, 0, 4, 0, 0, 1);
        reports("too deep", updated(x, 0, 0, 10), 2, 0, 4, 4, 4);
        reports("not too deep", updated(x, 3, 0, 10), 0, NONE, 3, 3, 3);
        reports("another field", updated(x, 3, 1, 10), 0, NONE, 3, 3, 3);
        Due.is("what -1", x.ifUpdated(0, 0, 10, -1), OUT_OF_RANGE);
        Due.is("what 5", x.ifUpdated(0, 0, 10, 5), OUT_OF_RANGE);
        Due.is("what 5, no row", x.ifUpdated(9, 0, 10, 5), UNKNOWN);
        Due.is("field 3, no row", x.ifUpdated(9, 3, 10, 0), UNKNOWN);
        Due.is("field 3", x.ifUpdated(0, 3, 10, 0), OUT_OF_RANGE);
        Due.is("field -1", x.ifUpdated(0, -1, 10, 0), OUT_OF_RANGE);
        Due.is("value 1000", x.ifUpdated(0, 0, 1000, 0), OUT_OF_RANGE);
        Due.is("value -1000", x.ifUpdated(0, 0, -1000, 0), OUT_OF_RANGE);
        Due.is("the same value", x.ifUpdated(0, 0, 0, 0), NONE);
        Due.is("the same value, what 5", x.ifUpdated(0, 0, 0, 5), OUT_OF_RANGE);
        Due.is("key -1", x.ifUpdated(-1, 0, 0, 0), UNKNOWN);
    }

    private static void ifDeleted() {
        RuleDepths x = new RuleDepths();
        Due.rows(x, 0, 5);
        x.addRule(2, 1, 0, 5, 0, 3, 1);
        x.setCondition(0, 3, 3, 2);
        reports("ifDeleted", deleted(x, 0), 0, NONE, 3, 2, 3);
        reports("ifDeleted", deleted(x, 2), 0, NONE, 1, 0, 1);
        Due.is("what -1", x.ifDeleted(0, -1), OUT_OF_RANGE);
        Due.is("what 5", x.ifDeleted(0, 5), OUT_OF_RANGE);
        Due.is("no row", x.ifDeleted(6, 0), UNKNOWN);
        Due.is("no row, what 5", x.ifDeleted(6, 5), UNKNOWN);
        Due.is("key -1", x.ifDeleted(-1, 0), UNKNOWN);
        x.addRule(2, 0, 0, 2, 0, 0, 0);
        reports("skipped", deleted(x, 0), 0, NONE, 1, 1, 1);
    }

    private static void reasons() {
        RuleDepths x = new RuleDepths();
        Due.rows(x, 0, 5);
        x.addRule(2, 0, 5, 0, 0, 0, 0);
        x.addRule(2, 0, 6, 1, 0, 0, 0);
        x.setCondition(1, 3, 2, 4);
        reports("refused before", deleted(x, 4), 1, 1, 1, 2, 1);
        x.addRule(1, 1, 0, 5, 0, 3, 1);
        reports("refused on the second depth", updated(x, 3, 0, 9), 1, 1, 2, 3, 2);
        reports("not refused", updated(x, 2, 0, 9), 0, NONE, 2, 2, 2);
        x.addRule(1, 1, 9, 1, 0, 0, 0);
        reports("refused after", updated(x, 2, 0, 9), 1, 3, 2, 3, 2);
        x.set(0, 1);
        reports("too deep comes first", updated(x, 2, 0, 9), 2, 2, 1, 1, 1);
        RuleDepths z = new RuleDepths();
        z.addRule(0, 0, 0, 1, 0, 0, 0);
        z.addRule(0, 0, 1, 0, 0, 0, 0);
        z.addRule(0, 0, 2, 1, 0, 0, 0);
        reports("the first refusal counts, before", inserted(z, 1, 0), 1, 0, 1, 1, 1);
        z.removeRule(0);
        z.removeRule(0);
        z.removeRule(0);
        z.addRule(0, 1, 3, 1, 0, 0, 0);
        z.addRule(0, 1, 3, 3, 0, 3, 1);
        z.addRule(0, 1, 3, 1, 0, 0, 0);
        reports("the first refusal counts, after", inserted(z, 1, 0), 1, 0, 1, 1, 1);
        RuleDepths y = new RuleDepths();
        Due.rows(y, 0, 9);
        for (int rule = 0; rule < 11; rule++) {
            y.addRule(1, 1, 0, 4, 0, 0, rule + 1);
            y.setCondition(rule, 3, 0, 2);
        }
        // The row 0, then 8 times the row 1 with its 11 updates (97 operations), then the row 1 and two more.
        reports("too many", updated(y, 0, 0, 100), 3, 2, 100, 9 + 88 + 3, 3);
    }

    private static void nothingChanges() {
        RuleDepths x = new RuleDepths();
        x.addRule(0, 0, 0, 0, 0, 0, 1);
        x.addRule(1, 1, 0, 4, 0, 0, 1);
        x.addRule(2, 1, 0, 3, 0, 3, 30);
        Due.rowsOf(x, 1, 2, 3, 4, 5, 6);
        int[] totals = new int[12];
        for (int what = 0; what < 12; what++) {
            totals[what] = x.total(what);
        }
        int recorded = x.firing(0, 2);
        x.ifInserted(50, 0, 0, 0, 2);
        x.ifUpdated(1, 0, 500, 2);
        x.ifUpdated(5, 0, 500, 2);
        x.ifDeleted(1, 2);
        x.depthFor(1, 0, 500);
        x.depthFor(5, 0, 500);
        for (int what = 0; what < 12; what++) {
            Due.is("total(" + what + ")", x.total(what), totals[what]);
        }
        Due.is("firing(0, 2)", x.firing(0, 2), recorded);
        Due.is("rule(0, 11)", x.rule(0, 11), 6);
        Due.is("rule(1, 11)", x.rule(1, 11), 0);
        Due.is("rule(2, 11)", x.rule(2, 11), 0);
        for (int key = 1; key <= 6; key++) {
            Due.is("row " + key, x.field(key, 0), 1);
        }
        Due.is("row 31", x.field(31, 0), UNKNOWN);
        Due.is("the snapshot is empty", x.restore(), NONE);
    }

    private static void depthFor() {
        for (int rows = 1; rows <= 10; rows++) {
            RuleDepths x = new RuleDepths();
            Due.rows(x, 0, rows - 1);
            x.addRule(1, 1, 0, 4, 0, 0, 1);
            // The row behind the last one is not there, but the last row's rule fires for it on the next depth.
            Due.is("depthFor, rows " + rows, x.depthFor(0, 0, 5), rows + 1 <= 8 ? rows + 1 : NONE);
            Due.is("the setting stays", x.total(3), 4);
            x.set(0, 1);
            Due.is("depthFor with the setting 1", x.depthFor(0, 0, 5), rows + 1 <= 8 ? rows + 1 : NONE);
            x.put(0, false);
            Due.is("without the rule", x.depthFor(0, 0, 5), 1);
        }
        RuleDepths y = new RuleDepths();
        Due.rows(y, 0, 0);
        Due.is("no row", y.depthFor(1, 0, 5), UNKNOWN);
        Due.is("no row, field 3", y.depthFor(1, 3, 5), UNKNOWN);
        Due.is("key -1", y.depthFor(-1, 0, 5), UNKNOWN);
        Due.is("field 3", y.depthFor(0, 3, 5), OUT_OF_RANGE);
        Due.is("field -1", y.depthFor(0, -1, 5), OUT_OF_RANGE);
        Due.is("value 1000", y.depthFor(0, 0, 1000), OUT_OF_RANGE);
        Due.is("value -1000", y.depthFor(0, 0, -1000), OUT_OF_RANGE);
        Due.is("the same value", y.depthFor(0, 0, 0), NONE);
    }

    private static void depthForRefused() {
        RuleDepths x = new RuleDepths();
        Due.rows(x, 0, 5);
        x.addRule(1, 1, 0, 4, 0, 0, 1);
        x.addRule(1, 0, 0, 1, 0, 0, 0);
        x.setCondition(1, 3, 2, 3);
        Due.is("refused on the depth 4", x.depthFor(0, 0, 5), NONE);
        Due.is("not refused from behind it", x.depthFor(4, 0, 5), 3);
        Due.is("refused at once", x.depthFor(3, 0, 5), NONE);
        Due.is("states", x.total(10), 4);
    }

    private static void depthForWithGuarding() {
        RuleDepths x = new RuleDepths();
        Due.rows(x, 0, 9);
        x.addRule(1, 1, 0, 4, 0, 0, 1);
        Due.is("without guarding", x.depthFor(0, 0, 5), NONE);
        x.set(1, 1);
        Due.is("with guarding", x.depthFor(0, 0, 5), 2);
        x.addRule(1, 1, 0, 4, 1, 0, 1);
        Due.is("with two rules", x.depthFor(0, 0, 5), 3);
        Due.is("update with the setting 2", x.set(0, 2) + x.update(0, 0, 5), 4 + REFUSED);
        Due.is("update with the setting 3", x.set(0, 3) + (x.update(0, 0, 5) > 0 ? 1 : 0), 3);
    }
}
