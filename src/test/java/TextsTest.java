/** Promises 10 to 12: texts. */
public final class TextsTest {
    private static final int UNKNOWN = -1001;
    private static final int FULL = -1003;
    private static final int DUPLICATE = -1004;
    private static final int REFUSED = -1005;

    public static void main(String[] args) {
        type();
        clearText();
        faults();
        goodTexts();
        allOrNone();
        statementsThatAreNothing();
        oneChange();
        manyStatements();
        recordIsOfTheLastOne();
        Due.end();
    }

    private static void type() {
        RuleDepths x = new RuleDepths();
        for (int length = 1; length <= 80; length++) {
            Due.is("type, length " + length, x.type((char) (length * 3)), length);
        }
        Due.is("the 81st", x.type('d'), FULL);
        Due.is("length", x.total(11), 80);
        Due.is("no change", x.total(10), 0);
        RuleDepths y = new RuleDepths();
        Due.is("any character", y.type((char) 0), 1);
        Due.is("any character", y.type((char) 255), 2);
        Due.is("any character", y.type('\uffff'), 3);
    }

    private static void clearText() {
        RuleDepths x = new RuleDepths();
        Due.is("empty", x.clearText(), 0);
        Due.typed(x, "d1");
        Due.is("two", x.clearText(), 2);
        Due.is("length", x.total(11), 0);
        Due.is("no change", x.total(10), 0);
        Due.is("the text begins anew", Due.performed(x, "i1=1,2,3"), 1);
        Due.is("it stays", x.total(11), 8);
        Due.is("again", x.perform(), DUPLICATE);
    }

    private static void faults() {
        fault("", 0);
        fault(";", 0);
        fault(" d1", 0);
        fault("x", 0);
        fault("I1=1,2,3", 0);
        fault((char) 0 + "", 0);
        fault((char) ('d' + 256) + "1", 0);
        fault("d", 1);
        fault("d;", 1);
        fault("d-1", 1);
        fault("dd1", 1);
        fault("d01", 2);
        fault("d00", 2);
        fault("d100", 3);
        fault("d1 ", 2);
        fault("d1.0", 2);
        fault("d1;", 3);
        fault("d1;;d2", 3);
        fault("d1d2", 2);
        fault("d12;x", 4);
        fault("d1:", 2);
        fault("d/", 1);
        fault("i", 1);
        fault("i=", 1);
        fault("i5", 2);
        fault("i5.", 2);
        fault("i5=", 3);
        fault("i5=,", 3);
        fault("i5=1", 4);
        fault("i5=1;", 4);
        fault("i5=1,", 5);
        fault("i5=1,2", 6);
        fault("i5=1,2,", 7);
        fault("i5=1,2,3,", 8);
        fault("i5=1,2,3;", 9);
        fault("i5=1000", 6);
        fault("i5=999,999,9999", 14);
        fault("i5=-", 4);
        fault("i5=--1", 4);
        fault("i5=-,", 4);
        fault("i5=1-2", 4);
        fault("i5=+1", 3);
        fault("i5=00", 4);
        fault("i5=-00", 5);
        fault("i5=-01", 5);
        fault("i5=01", 4);
        fault("i5-1", 2);
        fault("i100=1,2,3", 3);
        fault("i05=1,2,3", 2);
        fault("u", 1);
        fault("u1", 2);
        fault("u1=", 2);
        fault("u1.", 3);
        fault("u1.3=1", 3);
        fault("u1.-1=1", 3);
        fault("u1.00=1", 4);
        fault("u1.0", 4);
        fault("u1.0=", 5);
        fault("u1.0=;", 5);
        fault("u1.0=1,", 6);
        fault("u1.2=-1000", 9);
        fault("u12..", 4);
    }

    /** A text with rows for which it would do something, so that a wrong reading would show. */
    private static void fault(String text, int place) {
        RuleDepths x = new RuleDepths();
        x.insert(1, 0, 0, 0);
        x.insert(12, 0, 0, 0);
        Due.is("perform of '" + text + "'", Due.performed(x, text), -2000 - place);
        Due.is("rows after '" + text + "'", x.total(0), 2);
        Due.is("states after '" + text + "'", x.total(10), 2);
        Due.is("statements after '" + text + "'", x.total(5), 2);
    }

    private static void goodTexts() {
        RuleDepths x = new RuleDepths();
        Due.is("insert", Due.performed(x, "i0=0,-0,-999"), 1);
        Due.is("zero", x.field(0, 0), 0);
        Due.is("minus zero", x.field(0, 1), 0);
        Due.is("least", x.field(0, 2), -999);
        Due.is("insert", Due.performed(x, "i99=10,-10,999;i10=100,-100,5"), 2);
        Due.is("ten", x.field(99, 0), 10);
        Due.is("minus ten", x.field(99, 1), -10);
        Due.is("most", x.field(99, 2), 999);
        Due.is("hundred", x.field(10, 0), 100);
        Due.is("updates", Due.performed(x, "u99.0=1;u99.1=20;u99.2=-300"), 3);
        Due.is("zero", x.field(99, 0), 1);
        Due.is("one", x.field(99, 1), 20);
        Due.is("two", x.field(99, 2), -300);
        Due.is("deletes", Due.performed(x, "d0;d99"), 2);
        Due.is("rows", x.total(0), 1);
        Due.is("the row that is left", x.keyAt(0), 10);
        Due.is("one after the other", Due.performed(x, "d10;i10=1,2,3;u10.1=7;d10;i10=4,5,6"), 5);
        Due.is("the last one", x.field(10, 1), 5);
    }

    private static void allOrNone() {
        RuleDepths x = new RuleDepths();
        x.addRule(2, 0, 0, 1, 0, 0, 0);
        x.setCondition(0, 0, 2, 5);
        x.insert(1, 1, 1, 1);
        int states = x.total(10);
        Due.is("a duplicate", Due.performed(x, "u1.0=9;i2=0,0,0;i1=0,0,0;d44"), DUPLICATE);
        Due.is("unknown", Due.performed(x, "u1.0=9;i2=0,0,0;d44;i1=0,0,0"), UNKNOWN);
        Due.is("unknown, by an update", Due.performed(x, "u1.0=9;u44.0=1"), UNKNOWN);
        Due.is("refused", Due.performed(x, "i2=5,0,0;u1.1=9;d2"), REFUSED);
        Due.is("a fault comes first", Due.performed(x, "d44;d"), -2005);
        Due.is("rows", x.total(0), 1);
        Due.is("zero", x.field(1, 0), 1);
        Due.is("one", x.field(1, 1), 1);
        Due.is("statements", x.total(5), 1);
        Due.is("operations", x.total(6), 1);
        Due.is("firings", x.rule(0, 11), 0);
        Due.is("states", x.total(10), states);
        RuleDepths y = new RuleDepths();
        Due.rows(y, 0, 18);
        Due.is("full", Due.performed(y, "i50=0,0,0;i51=0,0,0"), FULL);
        Due.is("rows", y.total(0), 19);
        Due.is("room again", Due.performed(y, "i50=0,0,0;d0;i51=0,0,0"), 3);
    }

    private static void statementsThatAreNothing() {
        RuleDepths x = new RuleDepths();
        x.addRule(0, 0, 0, 0, 0, 0, 0);
        x.insert(1, 1, 1, 1);
        Due.is("nothing at all", Due.performed(x, "u1.0=1;u1.1=1"), 2);
        Due.is("it is a change all the same", x.total(10), 3);
        Due.is("statements", x.total(5), 1);
        Due.is("recorded", x.total(9), 1);
        Due.is("something between", Due.performed(x, "u1.0=1;u1.1=2;u1.1=2"), 3);
        Due.is("statements", x.total(5), 2);
        Due.is("one", x.field(1, 1), 2);
        Due.is("recorded: it had no firing", x.total(9), 0);
    }

    private static void oneChange() {
        RuleDepths x = new RuleDepths();
        Due.is("perform", Due.performed(x, "i1=1,1,1;i2=2,2,2;u1.0=5;d2"), 4);
        Due.is("states", x.total(10), 1);
        Due.is("statements", x.total(5), 4);
        Due.is("operations", x.total(6), 4);
        Due.is("undo", x.undo(), 0);
        Due.is("rows", x.total(0), 0);
        Due.is("statements", x.total(5), 0);
        Due.is("the text stays", x.total(11), 27);
        Due.is("perform again", x.perform(), 4);
    }

    private static void manyStatements() {
        RuleDepths x = new RuleDepths();
        x.addRule(2, 0, 0, 2, 0, 0, 0);
        x.insert(1, 0, 0, 0);
        StringBuilder text = new StringBuilder("d1");
        for (int i = 0; i < 26; i++) {
            text.append(";d1");
        }
        Due.is("27 statements in 80 characters", Due.performed(x, text.toString()), 27);
        Due.is("length", x.total(11), 80);
        Due.is("statements", x.total(5), 28);
        x.clearText();
        Due.typed(x, text.toString().substring(0, 79) + "x");
        Due.is("a full text with a fault at its end", x.perform(), -2079);
        x.clearText();
        Due.typed(x, text.toString().substring(1) + ";");
        Due.is("a full text with a fault at its beginning", x.perform(), -2000);
        x.clearText();
        Due.typed(x, "d10" + text.toString().substring(2, 77) + ";d");
        Due.is("a full text that ends too early", x.perform(), -2080);
    }

    private static void recordIsOfTheLastOne() {
        RuleDepths x = new RuleDepths();
        x.addRule(0, 0, 0, 0, 0, 0, 0);
        x.addRule(0, 0, 0, 0, 0, 0, 0);
        x.setCondition(1, 3, 2, 1);
        Due.is("perform", Due.performed(x, "i1=0,0,0;i2=0,0,0;u2.0=0"), 3);
        Due.is("recorded", x.total(9), 1);
        Due.is("its key", x.firing(0, 2), 2);
        Due.is("firings", x.total(7), 3);
        Due.is("an error", Due.performed(x, "d1;i5=0,0,0;i5=0,0,0"), DUPLICATE);
        Due.is("recorded as before", x.firing(0, 2), 2);
        Due.is("without a firing", Due.performed(x, "i1=0,0,0;d1;d2"), DUPLICATE);
        Due.is("without a firing", Due.performed(x, "i3=0,0,0;d1;d2"), 3);
        Due.is("nothing is recorded", x.total(9), 0);
    }
}
