/** The boundary cases of the term TEXTS and of promises 10 to 12, sentence by sentence. */
public final class EdgesOfTextsTest {
    private static final int UNKNOWN = -1001;
    private static final int FULL = -1003;
    private static final int DUPLICATE = -1004;
    private static final int REFUSED = -1005;
    private static final int NONE = -1006;

    private static final String DIGITS = "0123456789";

    public static void main(String[] args) {
        eightyCharacters();
        anyCharacter();
        emptyAtFirst();
        clearedText();
        allowedCharacters();
        endsTooEarly();
        longestStatements();
        severalStatements();
        keysInTexts();
        fieldsInTexts();
        valuesInTexts();
        zeros();
        firstFaultCounts();
        faultsOfAFullText();
        textStays();
        allOrNone();
        nothingIsNoError();
        oneChange();
        answersOfPerform();
        firstErrorCounts();
        Due.end();
    }

    /** The answer to a text on a new object with the rows 1 and 12. */
    private static int read(String text) {
        RuleDepths x = new RuleDepths();
        x.insert(1, 0, 0, 0);
        x.insert(12, 0, 0, 0);
        Due.is("the length of " + text, Due.typed(x, text), text.length());
        int answer = x.perform();
        if (answer <= -2000) {
            Due.is("nothing is done by " + text, x.total(5), 2);
            Due.is("no change by " + text, x.total(10), 2);
        }
        return answer;
    }

    private static void fault(String text, int place) {
        Due.is("perform of '" + text + "'", read(text), -2000 - place);
    }

    private static void eightyCharacters() {
        Due.sentence("TEXTS", "There is a text of at most 80 characters, empty at first.");
        RuleDepths x = new RuleDepths();
        Due.is("the length at first", x.total(11), 0);
        Due.sentence("Promise 10", "Returns the length of the text then; FULL if it has 80 characters.");
        for (int length = 1; length <= 80; length++) {
            Due.is("type", x.type('d'), length);
        }
        Due.is("the 81st character", x.type(';'), FULL);
        Due.is("the length", x.total(11), 80);
        Due.is("the fault is in the text as it was", x.perform(), -2001);
        Due.is("clearText", x.clearText(), 80);
        Due.is("then there is room", x.type('d'), 1);
        Due.is("it is no change", x.total(10), 0);
    }

    private static void anyCharacter() {
        Due.sentence("Promise 10", "character: any character");
        for (int character : new int[] {0, 1, 10, 32, 127, 128, 255, 256, 0xd800, 0xfffe, 0xffff}) {
            RuleDepths x = new RuleDepths();
            Due.is("type of " + character, x.type((char) character), 1);
            Due.is("type of " + character, x.type((char) character), 2);
            Due.is("perform of " + character, x.perform(), -2000);
            x.clearText();
            Due.typed(x, "d1");
            Due.is("type of " + character, x.type((char) character), 3);
            Due.is("perform behind a statement of " + character, x.perform(), -2002);
        }
    }

    private static void emptyAtFirst() {
        Due.sentence("TEXTS", "(the empty text does)");
        RuleDepths x = new RuleDepths();
        Due.is("perform", x.perform(), -2000);
        Due.is("no change", x.total(10), 0);
        Due.typed(x, "d1");
        x.clearText();
        Due.is("perform of a text that was emptied", x.perform(), -2000);
    }

    private static void clearedText() {
        Due.sentence("Promise 11", "Empties the text. Returns the length that it had.");
        RuleDepths x = new RuleDepths();
        Due.is("of the empty text", x.clearText(), 0);
        Due.is("type", x.type('i'), 1);
        Due.is("of one character", x.clearText(), 1);
        Due.is("the length", x.total(11), 0);
        Due.is("again", x.clearText(), 0);
        Due.typed(x, "d1;d1;d1");
        Due.is("of eight", x.clearText(), 8);
        Due.is("nothing is left of it", Due.typed(x, "i1=0,0,0"), 8);
        Due.is("perform", x.perform(), 1);
        x.clearText();
        Due.is("it is no change", x.total(10), 1);
    }

    /** Beginnings of a text, which characters may follow, and whether it may end there. */
    private static final String[][] GRAMMAR = {
        {"", "iud", ""},
        {"i", DIGITS, ""}, {"i0", "=", ""}, {"i1", DIGITS + "=", ""}, {"i9", DIGITS + "=", ""}, {"i10", "=", ""},
        {"i99", "=", ""},
        {"i5=", DIGITS + "-", ""}, {"i5=-", DIGITS, ""}, {"i5=0", ",", ""}, {"i5=-0", ",", ""},
        {"i5=1", DIGITS + ",", ""}, {"i5=-9", DIGITS + ",", ""}, {"i5=10", DIGITS + ",", ""},
        {"i5=-99", DIGITS + ",", ""}, {"i5=100", ",", ""}, {"i5=-999", ",", ""},
        {"i5=1,", DIGITS + "-", ""}, {"i5=1,-", DIGITS, ""}, {"i5=1,0", ",", ""}, {"i5=1,-0", ",", ""},
        {"i5=1,9", DIGITS + ",", ""}, {"i5=1,-1", DIGITS + ",", ""}, {"i5=1,99", DIGITS + ",", ""},
        {"i5=1,-10", DIGITS + ",", ""}, {"i5=1,999", ",", ""}, {"i5=1,-100", ",", ""},
        {"i5=1,2,", DIGITS + "-", ""}, {"i5=1,2,-", DIGITS, ""}, {"i5=1,2,0", ";", "end"}, {"i5=1,2,-0", ";", "end"},
        {"i5=1,2,3", DIGITS + ";", "end"}, {"i5=1,2,-3", DIGITS + ";", "end"}, {"i5=1,2,30", DIGITS + ";", "end"},
        {"i5=1,2,-90", DIGITS + ";", "end"}, {"i5=1,2,300", ";", "end"}, {"i5=1,2,-909", ";", "end"},
        {"u", DIGITS, ""}, {"u0", ".", ""}, {"u1", DIGITS + ".", ""}, {"u9", DIGITS + ".", ""}, {"u10", ".", ""},
        {"u99", ".", ""},
        {"u1.", "012", ""}, {"u1.0", "=", ""}, {"u1.1", "=", ""}, {"u1.2", "=", ""},
        {"u1.0=", DIGITS + "-", ""}, {"u1.0=-", DIGITS, ""}, {"u1.0=0", ";", "end"}, {"u1.0=-0", ";", "end"},
        {"u1.0=1", DIGITS + ";", "end"}, {"u1.0=-9", DIGITS + ";", "end"}, {"u1.0=99", DIGITS + ";", "end"},
        {"u1.0=-10", DIGITS + ";", "end"}, {"u1.0=100", ";", "end"}, {"u1.0=-999", ";", "end"},
        {"d", DIGITS, ""}, {"d0", ";", "end"}, {"d1", DIGITS + ";", "end"}, {"d9", DIGITS + ";", "end"},
        {"d10", ";", "end"}, {"d99", ";", "end"},
        {"d1;", "iud", ""}, {"u1.0=5;", "iud", ""}, {"i5=1,2,3;", "iud", ""}, {"d1;i", DIGITS, ""},
        {"d1;u", DIGITS, ""}, {"d1;d", DIGITS, ""}, {"d1;d0", ";", "end"}, {"d1;d12", ";", "end"},
        {"d1;d12;u1.2=0", ";", "end"},
    };

    private static void allowedCharacters() {
        Due.sentence("TEXTS",
                "It is a list of one or more statements with \";\" between two: \"i\", a key, \"=\" and three values "
                + "with \",\" between two; \"u\", a key, \".\", a field (0 to 2), \"=\" and a value; \"d\" and a key.");
        for (String[] row : GRAMMAR) {
            String ahead = row[0];
            boolean mayEnd = row[2].equals("end");
            int answer = read(ahead);
            Due.holds("'" + ahead + "' answered " + answer, mayEnd ? answer > -2000 : answer == -2000 - ahead.length());
            for (int character = 0; character < 300; character++) {
                int next = afterwards(ahead, (char) character);
                boolean allowed = row[1].indexOf(character) >= 0;
                Due.holds("'" + ahead + "' and the character " + character + " answered " + next,
                        (next == -2000 - ahead.length()) == !allowed);
            }
        }
    }

    private static int afterwards(String ahead, char character) {
        RuleDepths x = new RuleDepths();
        Due.typed(x, ahead);
        x.type(character);
        return x.perform();
    }

    private static void endsTooEarly() {
        Due.sentence("TEXTS",
                "The fault of the text is the index, from 0, of the first character that is not allowed at its place, "
                + "or the length of the text if it ends too early");
        String[] statements = {"i50=-100,999,-0", "u12.2=-45", "d12"};
        int[] firstEnds = {14, 7, 2};
        for (int i = 0; i < statements.length; i++) {
            String text = statements[i];
            for (int length = 0; length < firstEnds[i]; length++) {
                fault(text.substring(0, length), length);
                fault("u1.0=7;" + text.substring(0, length), 7 + length);
            }
            for (int place = 0; place < text.length(); place++) {
                fault(text.substring(0, place) + "x" + text.substring(place + 1), place);
                fault("d1;" + text.substring(0, place) + " " + text.substring(place + 1), 3 + place);
            }
            fault(text + ";", text.length() + 1);
            fault(text + ";;", text.length() + 1);
            fault(text + "x", text.length());
            Due.is("'" + text + "' is good", read(text), 1);
        }
    }

    private static void longestStatements() {
        RuleDepths x = new RuleDepths();
        Due.is("the longest insert", Due.performed(x, "i99=-999,-999,-999"), 1);
        Due.is("zero", x.field(99, 0), -999);
        Due.is("one", x.field(99, 1), -999);
        Due.is("two", x.field(99, 2), -999);
        Due.is("the longest update", Due.performed(x, "u99.2=-998"), 1);
        Due.is("two", x.field(99, 2), -998);
        Due.is("the longest delete", Due.performed(x, "d99"), 1);
        Due.is("the shortest insert", Due.performed(x, "i0=1,2,3"), 1);
        Due.is("two", x.field(0, 2), 3);
        Due.is("the shortest update", Due.performed(x, "u0.1=9"), 1);
        Due.is("one", x.field(0, 1), 9);
        Due.is("the shortest delete", Due.performed(x, "d0"), 1);
        Due.is("rows", x.total(0), 0);
    }

    private static void severalStatements() {
        Due.sentence("TEXTS", "one or more statements with \";\" between two");
        StringBuilder text = new StringBuilder("i1=0,0,0");
        for (int statements = 2; statements <= 13; statements++) {
            text.append(";u1.").append(statements % 3).append('=').append(statements % 10);
            if (text.length() > 80) {
                break;
            }
            RuleDepths x = new RuleDepths();
            Due.is("perform of " + text, Due.performed(x, text.toString()), statements);
            Due.is("the field of the last one", x.field(1, statements % 3), statements % 10);
        }
        RuleDepths x = new RuleDepths();
        x.addRule(2, 0, 0, 2, 0, 0, 0);
        x.insert(1, 0, 0, 0);
        StringBuilder deletes = new StringBuilder("d1");
        for (int i = 1; i < 27; i++) {
            deletes.append(";d1");
        }
        Due.is("27 statements on all 80 characters", Due.performed(x, deletes.toString()), 27);
        Due.is("the length", x.total(11), 80);
        Due.is("statements", x.total(5), 28);
        Due.is("firings", x.total(7), 27);
        RuleDepths y = new RuleDepths();
        String full = "i1=0,0,0;u1.0=100;u1.1=100;u1.2=100;u1.0=-999;u1.1=-999;u1.2=-999;d1;i1=5,5,-123";
        Due.is("the number at the end of the full text is read to its end", Due.performed(y, full), 9);
        Due.is("the length", y.total(11), 80);
        Due.is("two", y.field(1, 2), -123);
        fault(full.substring(0, 79) + "-", 79);
    }

    private static void keysInTexts() {
        Due.sentence("TEXTS", "A key is a number from 0 to 99");
        for (int key : new int[] {0, 1, 9, 10, 11, 98, 99}) {
            RuleDepths x = new RuleDepths();
            Due.is("insert of " + key, Due.performed(x, "i" + key + "=1,2,3"), 1);
            Due.is("its field", x.field(key, 1), 2);
            Due.is("update of " + key, Due.performed(x, "u" + key + ".1=4"), 1);
            Due.is("its field", x.field(key, 1), 4);
            Due.is("delete of " + key, Due.performed(x, "d" + key), 1);
            Due.is("it is gone", x.field(key, 1), UNKNOWN);
        }
        for (String key : new String[] {"100", "999", "000", "120"}) {
            int place = key.startsWith("0") ? 2 : 3;
            fault("i" + key + "=1,2,3", place);
            fault("u" + key + ".0=1", place);
            fault("d" + key, place);
        }
        fault("i-1=1,2,3", 1);
        fault("u-1.0=1", 1);
        fault("d-1", 1);
        fault("d-0", 1);
    }

    private static void fieldsInTexts() {
        Due.sentence("TEXTS", "\"u\", a key, \".\", a field (0 to 2)");
        for (int field = 0; field < 3; field++) {
            RuleDepths x = new RuleDepths();
            x.insert(1, 7, 7, 7);
            Due.is("update of the field " + field, Due.performed(x, "u1." + field + "=3"), 1);
            for (int other = 0; other < 3; other++) {
                Due.is("field " + other, x.field(1, other), other == field ? 3 : 7);
            }
        }
        fault("u1.3=1", 3);
        fault("u1.9=1", 3);
        fault("u1.-0=1", 3);
        fault("u1.-1=1", 3);
        fault("u1.00=1", 4);
        fault("u1.10=1", 4);
        fault("u1.=1", 3);
    }

    private static void valuesInTexts() {
        Due.sentence("TEXTS", "a value a number from 0 to 999, perhaps with \"-\" ahead");
        for (int value : new int[] {-999, -998, -100, -99, -10, -9, -1, 0, 1, 9, 10, 99, 100, 101, 998, 999}) {
            for (int field = 0; field < 3; field++) {
                RuleDepths x = new RuleDepths();
                String values = field == 0 ? value + ",5,5" : field == 1 ? "5," + value + ",5" : "5,5," + value;
                Due.is("insert of " + values, Due.performed(x, "i1=" + values), 1);
                Due.is("field " + field, x.field(1, field), value);
                Due.is("another one", x.field(1, (field + 1) % 3), 5);
                Due.is("update", Due.performed(x, "u1." + (field + 1) % 3 + "=" + value), 1);
                Due.is("field then", x.field(1, (field + 1) % 3), value);
            }
        }
        fault("u1.0=1000", 8);
        fault("u1.0=-1000", 9);
        fault("i2=1000,0,0", 6);
        fault("i2=-1000,0,0", 7);
        fault("i2=0,1000,0", 8);
        fault("i2=0,-1000,0", 9);
        fault("i2=0,0,1000", 10);
        fault("i2=0,0,-1000", 11);
        fault("u1.0=--1", 6);
        fault("u1.0=+1", 5);
        fault("u1.0=-", 6);
        fault("u1.0=1-", 6);
    }

    private static void zeros() {
        Due.sentence("TEXTS",
                "numbers have no zeros ahead of other digits (\"-0\" is allowed, and is 0)");
        RuleDepths x = new RuleDepths();
        Due.is("-0 in an insert", Due.performed(x, "i1=-0,-0,-0"), 1);
        Due.is("zero", x.field(1, 0), 0);
        Due.is("one", x.field(1, 1), 0);
        Due.is("two", x.field(1, 2), 0);
        Due.is("an update to -0 is nothing", Due.performed(x, "u1.0=-0"), 1);
        Due.is("statements", x.total(5), 1);
        x.update(1, 2, 5);
        Due.is("an update to -0", Due.performed(x, "u1.2=-0"), 1);
        Due.is("two", x.field(1, 2), 0);
        Due.is("zeros behind other digits", Due.performed(x, "i10=100,-200,10;i20=0,0,0"), 2);
        Due.is("zero", x.field(10, 0), 100);
        fault("d00", 2);
        fault("d01", 2);
        fault("d09", 2);
        fault("u00.0=1", 2);
        fault("i01=1,2,3", 2);
        fault("u1.0=00", 6);
        fault("u1.0=01", 6);
        fault("u1.0=000", 6);
        fault("u1.0=-00", 7);
        fault("u1.0=-01", 7);
        fault("i2=00,0,0", 4);
        fault("i2=0,07,0", 6);
        fault("i2=0,0,08", 8);
    }

    private static void firstFaultCounts() {
        Due.sentence("TEXTS", "the index, from 0, of the first character that is not allowed at its place");
        fault("x", 0);
        fault(";", 0);
        fault("d1;;", 3);
        fault("d1;d1;d1x;d1x", 8);
        fault("dx;dy", 1);
        fault("d1,d2", 2);
        fault("d1;d", 4);
        fault("D1", 0);
        fault("d1 ;d2", 2);
        fault("u1=0", 2);
        fault("i1.0=0", 2);
        fault("i1=0,0;", 6);
        fault("i1=0,0,0,0", 8);
    }

    private static void faultsOfAFullText() {
        StringBuilder text = new StringBuilder("d1");
        while (text.length() < 80) {
            text.append(";d1");
        }
        String full = text.toString();
        fault(full.substring(0, 79) + "x", 79);
        fault(full.substring(0, 78) + "x1", 78);
        fault("x" + full.substring(1), 0);
        fault(full.substring(0, 77) + "d10", 77);
        fault("d12" + full.substring(2, 77) + ";d", 80);
        fault("d1;d12" + full.substring(5, 74) + ";u1.", 79);
        fault("d12;d12" + full.substring(5, 77) + ";", 80);
    }

    private static void textStays() {
        Due.sentence("Promise 12", "Carries out the statements of the text, which stays");
        RuleDepths x = new RuleDepths();
        Due.is("perform", Due.performed(x, "i1=0,0,0"), 1);
        Due.is("the length", x.total(11), 8);
        Due.is("again", x.perform(), DUPLICATE);
        Due.is("the length after an error", x.total(11), 8);
        Due.is("it may be continued", Due.typed(x, ";"), 9);
        Due.is("a fault", x.perform(), -2009);
        Due.is("the length after a fault", x.total(11), 9);
        Due.is("undo", x.undo(), 0);
        Due.is("continued", Due.typed(x, "d1"), 11);
        Due.is("perform", x.perform(), 2);
        Due.is("again", x.perform(), 2);
    }

    private static void allOrNone() {
        Due.sentence("Promise 12", "one after the other: all of them, or none if one of them returns an error");
        Twins.unchanged("a text whose first statement fails", x -> made(x, "d9;u1.0=8;i2=0,0,0"), RuleDepths::perform,
                UNKNOWN);
        Twins.unchanged("a text whose last statement fails", x -> made(x, "u1.0=8;i2=0,0,0;i1=0,0,0"),
                RuleDepths::perform, DUPLICATE);
        Twins.unchanged("a text whose last statement is refused", x -> made(x, "u1.0=8;i2=0,0,0;u2.0=9;d1"),
                RuleDepths::perform, REFUSED);
        Twins.unchanged("a text with a fault at its end", x -> made(x, "u1.0=8;i2=0,0,0;"), RuleDepths::perform, -2016);
        RuleDepths x = new RuleDepths();
        Due.rows(x, 0, 19);
        Due.is("full", Due.performed(x, "u0.0=1;i20=0,0,0"), FULL);
        Due.is("row 0", x.field(0, 0), 0);
        Due.is("room is made ahead", Due.performed(x, "d0;i20=0,0,0"), 2);
        Due.is("rows", x.total(0), 20);
    }

    /** An object with counts, a record, a history of four states, a snapshot, and a text. */
    private static void made(RuleDepths x, String text) {
        x.addRule(1, 0, 0, 0, 2, 0, 1);
        x.addRule(2, 0, 0, 1, 0, 0, 0);
        x.keep();
        x.insert(1, 5, 5, 5);
        x.update(1, 0, 6);
        x.set(0, 3);
        x.update(1, 0, 7);
        Due.typed(x, text);
    }

    private static void nothingIsNoError() {
        Due.sentence("Promise 12", "(A statement that returns NONE does nothing, and is no error.)");
        RuleDepths x = new RuleDepths();
        x.insert(1, 0, 0, 0);
        Due.is("between others", Due.performed(x, "u1.0=4;u1.0=4;u1.1=5"), 3);
        Due.is("statements", x.total(5), 3);
        Due.is("operations", x.total(6), 3);
        Due.is("at the beginning", Due.performed(x, "u1.0=4;u1.1=6"), 2);
        Due.is("at the end", Due.performed(x, "u1.1=7;u1.1=7"), 2);
        Due.is("statements", x.total(5), 5);
        Due.is("ahead of an error", Due.performed(x, "u1.1=7;d2"), UNKNOWN);
        Due.is("statements", x.total(5), 5);
        Due.is("alone: all of the statements of the text", Due.performed(x, "u1.1=7"), 1);
        Due.is("statements", x.total(5), 5);
    }

    private static void oneChange() {
        Due.sentence("Promise 12", "This is one change.");
        RuleDepths x = new RuleDepths();
        Due.is("perform", Due.performed(x, "i1=0,0,0;i2=0,0,0;i3=0,0,0;i4=0,0,0;i5=0,0,0;i6=0,0,0"), 6);
        Due.is("states", x.total(10), 1);
        Due.is("undo", x.undo(), 0);
        Due.is("rows", x.total(0), 0);
        Due.is("undo", x.undo(), NONE);
        x.insert(1, 0, 0, 0);
        x.insert(2, 0, 0, 0);
        x.insert(3, 0, 0, 0);
        x.insert(7, 0, 0, 0);
        Due.is("perform", Due.performed(x, "d1;d2;d3;d7;i8=0,0,0"), 5);
        Due.is("the oldest state was dropped", x.total(10), 4);
        Due.is("undo", x.undo(), 3);
        Due.is("rows", x.total(0), 4);
        Due.is("undo", x.undo(), 2);
        Due.is("rows", x.total(0), 3);
    }

    private static void answersOfPerform() {
        Due.sentence("Promise 12",
                "Returns how many statements the text has; -2000 minus the fault of the text if it has one (this is an "
                + "error); otherwise the error of the first statement that returns one.");
        RuleDepths x = new RuleDepths();
        Due.is("one statement, of several operations", x.addRule(0, 1, 0, 3, 0, 3, 1), 0);
        x.setCondition(0, 3, 0, 3);
        Due.is("perform", Due.performed(x, "i1=0,0,0"), 1);
        Due.is("rows", x.total(0), 3);
        Due.is("the least fault", Due.performed(x, "D"), -2000);
        Due.is("a fault ahead of an error", Due.performed(x, "d9;x"), -2003);
        Due.is("a fault behind a good statement and an error", Due.performed(x, "u1.0=3;d9;d1x"), -2012);
    }

    private static void firstErrorCounts() {
        Due.sentence("Promise 12", "otherwise the error of the first statement that returns one");
        RuleDepths x = new RuleDepths();
        x.addRule(2, 0, 0, 1, 0, 0, 0);
        Due.rows(x, 0, 19);
        Due.is("unknown first", Due.performed(x, "d50;i1=0,0,0;i50=0,0,0;d1"), UNKNOWN);
        Due.is("duplicate first", Due.performed(x, "i1=0,0,0;d50;i50=0,0,0;d1"), DUPLICATE);
        Due.is("full first", Due.performed(x, "i50=0,0,0;i1=0,0,0;d50;d1"), FULL);
        Due.is("refused first", Due.performed(x, "d1;i50=0,0,0;i1=0,0,0;d50"), REFUSED);
        Due.is("unknown, by an update", Due.performed(x, "u1.0=0;u50.0=0;d1"), UNKNOWN);
        Due.is("states", x.total(10), 4);
        Due.is("statements", x.total(5), 20);
    }
}
