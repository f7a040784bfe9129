/**
 * A table whose rules fire on inserts, updates and deletes, level by level, up to a greatest depth.
 * What each call answers is told by the promises of the document; see README.md.
 */
public final class RuleDepths {
    /** There is no such row, rule or setting. */
    public static final int UNKNOWN = -1001;
    /** Another argument is out of its range. */
    public static final int OUT_OF_RANGE = -1002;
    /** There is no more room. */
    public static final int FULL = -1003;
    /** There is a row with this key already. */
    public static final int DUPLICATE = -1004;
    /** The statement is refused. */
    public static final int REFUSED = -1005;
    /** There is no such thing; this is not an error. */
    public static final int NONE = -1006;

    private static final int FINE = 0;
    private static final int TEXT_FAULT = -2000;

    private static final int MOST_KEY = 99;
    private static final int MOST_FIELD = 2;
    private static final int KEY_FIELD = 3;
    private static final int MOST_VALUE = 999;
    private static final int MOST_ROWS = 20;
    private static final int MOST_RULES = 12;
    private static final int MOST_RANK = 99;
    private static final int MOST_COMPARISON = 5;
    private static final int MOST_DEPTH = 8;
    private static final int MOST_OPERATIONS = 100;
    private static final int MOST_RECORDED = 60;
    private static final int MOST_CHARACTERS = 80;
    private static final int MOST_STATES = 4;

    private static final int INSERT = 0;
    private static final int UPDATE = 1;
    private static final int DELETE = 2;

    private static final int BEFORE = 0;
    private static final int AFTER = 1;

    private static final int SET = 0;
    private static final int REFUSE = 1;
    private static final int SKIP = 2;
    private static final int CAUSE_INSERT = 3;
    private static final int CAUSE_UPDATE = 4;
    private static final int CAUSE_DELETE = 5;

    private static final int BY_RULE = 1;
    private static final int TOO_DEEP = 2;
    private static final int TOO_MANY = 3;

    private static final int AT_LEAST = 4;

    private static final int LAST_REPORT = 4;

    private final Engine engine = new Engine();
    private final State before = new State();
    private final State snapshot = new State();
    private boolean hasSnapshot;
    private final History history = new History();
    private final Text text = new Text();

    /** Promise 1. */
    public RuleDepths() {
    }

    // ---- rules, settings

    /** Promise 2. */
    public int addRule(int event, int moment, int rank, int kind, int a, int b, int c) {
        if (!isEvent(event) || !isMoment(moment) || !within(rank, 0, MOST_RANK)
                || !isKindFor(moment, kind) || !within(a, 0, MOST_FIELD)
                || !within(b, 0, KEY_FIELD) || !isValue(c)) {
            return OUT_OF_RANGE;
        }
        RuleList rules = engine.state.rules;
        Rule spare = rules.spare();
        if (spare == null) {
            return FULL;
        }
        history.push(engine.state);
        spare.define(event, moment, rank, kind, a, b, c);
        return rules.takeSpare();
    }

    /** Promise 3. */
    public int setCondition(int rule, int field, int comparison, int number) {
        Rule changed = engine.state.rules.ruleOf(rule);
        if (changed == null) {
            return UNKNOWN;
        }
        if (!within(field, 0, KEY_FIELD) || !within(comparison, 0, MOST_COMPARISON) || !isValue(number)) {
            return OUT_OF_RANGE;
        }
        history.push(engine.state);
        changed.demand(field, comparison, number);
        return rule;
    }

    /** Promise 4. */
    public int put(int rule, boolean on) {
        Rule changed = engine.state.rules.ruleOf(rule);
        if (changed == null) {
            return UNKNOWN;
        }
        if (changed.on == on) {
            return NONE;
        }
        history.push(engine.state);
        changed.on = on;
        return engine.state.rules.countOn();
    }

    /** Promise 5. */
    public int removeRule(int rule) {
        RuleList rules = engine.state.rules;
        if (rules.ruleOf(rule) == null) {
            return UNKNOWN;
        }
        history.push(engine.state);
        rules.drop(rule);
        return rules.count;
    }

    /** Promise 6. */
    public int set(int setting, int value) {
        if (!within(setting, 0, 1)) {
            return UNKNOWN;
        }
        boolean fits = setting == 0 ? within(value, 1, MOST_DEPTH) : within(value, 0, 1);
        if (!fits) {
            return OUT_OF_RANGE;
        }
        State state = engine.state;
        int previous = setting == 0 ? state.greatestDepth : state.guarding;
        if (previous == value) {
            return NONE;
        }
        history.push(state);
        if (setting == 0) {
            state.greatestDepth = value;
        } else {
            state.guarding = value;
        }
        return previous;
    }

    // ---- statements

    /** Promise 7. */
    public int insert(int key, int zero, int one, int two) {
        before.copyFrom(engine.state);
        return settle(engine.runInsert(key, zero, one, two));
    }

    /** Promise 8. */
    public int update(int key, int field, int value) {
        before.copyFrom(engine.state);
        return settle(engine.runUpdate(key, field, value));
    }

    /** Promise 9. */
    public int delete(int key) {
        before.copyFrom(engine.state);
        return settle(engine.runDelete(key));
    }

    // ---- texts

    /** Promise 10. */
    public int type(char character) {
        return text.append(character) ? text.length : FULL;
    }

    /** Promise 11. */
    public int clearText() {
        int had = text.length;
        text.length = 0;
        return had;
    }

    /** Promise 12. */
    public int perform() {
        int count = text.countStatements();
        if (count < 0) {
            return count;
        }
        before.copyFrom(engine.state);
        text.rewind();
        for (int done = 0; done < count; done++) {
            text.readStatement();
            int answer = performStatement();
            if (answer < 0 && answer != NONE) {
                return settle(answer);
            }
        }
        return settle(count);
    }

    // ---- history

    /** Promise 13. */
    public int undo() {
        return history.popInto(engine.state) ? history.count : NONE;
    }

    /** Promise 14. */
    public int keep() {
        snapshot.copyFrom(engine.state);
        hasSnapshot = true;
        return snapshot.table.count;
    }

    /** Promise 15. */
    public int restore() {
        if (!hasSnapshot) {
            return NONE;
        }
        history.push(engine.state);
        engine.state.copyFrom(snapshot);
        return snapshot.table.count;
    }

    // ---- what there is

    /** Promise 16. */
    public int field(int key, int field) {
        Row row = engine.state.table.rowOf(key);
        if (row == null) {
            return UNKNOWN;
        }
        return within(field, 0, MOST_FIELD) ? row.valueOf(field) : OUT_OF_RANGE;
    }

    /** Promise 17. */
    public int keyAt(int rank) {
        if (rank < 0) {
            return OUT_OF_RANGE;
        }
        Row row = engine.state.table.rowAt(rank);
        return row == null ? NONE : row.key;
    }

    /** Promise 18. */
    public int rule(int rule, int what) {
        Rule told = engine.state.rules.ruleOf(rule);
        return told == null ? UNKNOWN : told.tell(what);
    }

    /** Promise 19. */
    public int order(int event, int moment, int place) {
        if (!isEvent(event) || !isMoment(moment) || place < 0) {
            return OUT_OF_RANGE;
        }
        return engine.state.rules.numberAmong(event, moment, place);
    }

    /** Promise 20. */
    public int firing(int index, int what) {
        if (index < 0 || !within(what, 0, 2)) {
            return OUT_OF_RANGE;
        }
        return engine.state.record.tell(index, what);
    }

    /** Promise 21. */
    public int total(int what) {
        switch (what) {
            case 10:
                return history.count;
            case 11:
                return text.length;
            default:
                return engine.state.tell(what);
        }
    }

    // ---- what would be; nothing changes

    /** Promise 22. */
    public int ifInserted(int key, int zero, int one, int two, int what) {
        int fault = engine.insertFault(key, zero, one, two);
        if (fault != FINE) {
            return fault;
        }
        if (!isReport(what)) {
            return OUT_OF_RANGE;
        }
        before.copyFrom(engine.state);
        engine.runInsert(key, zero, one, two);
        engine.state.copyFrom(before);
        return engine.report(what);
    }

    /** Promise 23. */
    public int ifUpdated(int key, int field, int value, int what) {
        int fault = engine.updateFault(key, field, value);
        if (fault != FINE && fault != NONE) {
            return fault;
        }
        if (!isReport(what)) {
            return OUT_OF_RANGE;
        }
        if (fault == NONE) {
            return NONE;
        }
        before.copyFrom(engine.state);
        engine.runUpdate(key, field, value);
        engine.state.copyFrom(before);
        return engine.report(what);
    }

    /** Promise 24. */
    public int ifDeleted(int key, int what) {
        int fault = engine.deleteFault(key);
        if (fault != FINE) {
            return fault;
        }
        if (!isReport(what)) {
            return OUT_OF_RANGE;
        }
        before.copyFrom(engine.state);
        engine.runDelete(key);
        engine.state.copyFrom(before);
        return engine.report(what);
    }

    /** Promise 25. */
    public int depthFor(int key, int field, int value) {
        int fault = engine.updateFault(key, field, value);
        if (fault != FINE) {
            return fault;
        }
        before.copyFrom(engine.state);
        for (int depth = 1; depth <= MOST_DEPTH; depth++) {
            engine.state.greatestDepth = depth;
            int answer = engine.runUpdate(key, field, value);
            engine.state.copyFrom(before);
            if (answer != REFUSED) {
                return depth;
            }
        }
        return NONE;
    }

    // ---- helpers of the calls

    /** Ends a change that began with a copy of the state in before. */
    private int settle(int answer) {
        if (answer < 0) {
            engine.state.copyFrom(before);
        } else {
            history.push(before);
        }
        return answer;
    }

    private int performStatement() {
        switch (text.event) {
            case INSERT:
                return engine.runInsert(text.key, text.first, text.second, text.third);
            case UPDATE:
                return engine.runUpdate(text.key, text.field, text.first);
            default:
                return engine.runDelete(text.key);
        }
    }

    private static boolean isReport(int what) {
        return within(what, 0, LAST_REPORT);
    }

    private static boolean isEvent(int event) {
        return within(event, INSERT, DELETE);
    }

    private static boolean isMoment(int moment) {
        return within(moment, BEFORE, AFTER);
    }

    private static boolean isKindFor(int moment, int kind) {
        if (moment == BEFORE) {
            return within(kind, SET, SKIP);
        }
        return kind == REFUSE || within(kind, CAUSE_INSERT, CAUSE_DELETE);
    }

    private static boolean isValue(int value) {
        return within(value, -MOST_VALUE, MOST_VALUE);
    }

    private static boolean within(int value, int least, int most) {
        return value >= least && value <= most;
    }

    /** A row of the table, or the image of one. */
    private static final class Row {
        int key;
        private int zero;
        private int one;
        private int two;

        void fill(int newKey, int newZero, int newOne, int newTwo) {
            key = newKey;
            zero = newZero;
            one = newOne;
            two = newTwo;
        }

        void copyFrom(Row other) {
            key = other.key;
            zero = other.zero;
            one = other.one;
            two = other.two;
        }

        int valueOf(int field) {
            switch (field) {
                case 0:
                    return zero;
                case 1:
                    return one;
                case 2:
                    return two;
                default:
                    return key;
            }
        }

        void change(int field, int value) {
            switch (field) {
                case 0:
                    zero = value;
                    break;
                case 1:
                    one = value;
                    break;
                default:
                    two = value;
                    break;
            }
        }
    }

    /** The rows by rising key; the objects from count on are spare, so that no call makes a row. */
    private static final class Table {
        private final Row[] rows = new Row[MOST_ROWS];
        int count;

        Table() {
            for (int place = 0; place < rows.length; place++) {
                rows[place] = new Row();
            }
        }

        boolean isFull() {
            return count >= rows.length;
        }

        Row rowAt(int place) {
            return place >= 0 && place < count && place < rows.length ? rows[place] : null;
        }

        Row rowOf(int key) {
            for (int place = 0; place < count && place < rows.length; place++) {
                Row row = rows[place];
                if (row != null && row.key == key) {
                    return row;
                }
            }
            return null;
        }

        void take(Row image) {
            if (count < 0 || count >= rows.length) {
                return;
            }
            Row spare = rows[count];
            if (spare == null) {
                return;
            }
            spare.copyFrom(image);
            int place = count;
            for (; place > 0; place--) {
                Row ahead = rows[place - 1];
                if (ahead == null || ahead.key < image.key) {
                    break;
                }
                rows[place] = ahead;
            }
            rows[place] = spare;
            count++;
        }

        void drop(int key) {
            Row dropped = null;
            for (int place = 0; place < count && place < rows.length; place++) {
                Row row = rows[place];
                if (dropped == null && row != null && row.key == key) {
                    dropped = row;
                }
                if (dropped != null) {
                    rows[place] = place + 1 < count && place + 1 < rows.length ? rows[place + 1] : dropped;
                }
            }
            if (dropped != null) {
                count--;
            }
        }

        void copyFrom(Table other) {
            count = other.count;
            for (int place = 0; place < count && place < rows.length; place++) {
                Row row = rows[place];
                Row source = other.rowAt(place);
                if (row != null && source != null) {
                    row.copyFrom(source);
                }
            }
        }
    }

    /** A rule with its condition and its action. */
    private static final class Rule {
        private int event;
        private int moment;
        int rank;
        int kind;
        int a;
        private int b;
        private int c;
        private int field;
        private int comparison;
        private int number;
        boolean on;
        int firings;

        void define(int newEvent, int newMoment, int newRank, int newKind, int newA, int newB, int newC) {
            event = newEvent;
            moment = newMoment;
            rank = newRank;
            kind = newKind;
            a = newA;
            b = newB;
            c = newC;
            demand(KEY_FIELD, AT_LEAST, 0);
            on = true;
            firings = 0;
        }

        void demand(int newField, int newComparison, int newNumber) {
            field = newField;
            comparison = newComparison;
            number = newNumber;
        }

        void copyFrom(Rule other) {
            define(other.event, other.moment, other.rank, other.kind, other.a, other.b, other.c);
            demand(other.field, other.comparison, other.number);
            on = other.on;
            firings = other.firings;
        }

        boolean isFor(int wantedEvent, int wantedMoment) {
            return event == wantedEvent && moment == wantedMoment;
        }

        boolean holdsFor(Row row) {
            int value = row.valueOf(field);
            switch (comparison) {
                case 0:
                    return value < number;
                case 1:
                    return value <= number;
                case 2:
                    return value == number;
                case 3:
                    return value != number;
                case AT_LEAST:
                    return value >= number;
                default:
                    return value > number;
            }
        }

        int valueFor(Row row) {
            return Math.max(-MOST_VALUE, Math.min(MOST_VALUE, row.valueOf(b) + c));
        }

        int tell(int what) {
            switch (what) {
                case 0:
                    return event;
                case 1:
                    return moment;
                case 2:
                    return rank;
                case 3:
                    return kind;
                case 4:
                    return a;
                case 5:
                    return b;
                case 6:
                    return c;
                case 7:
                    return field;
                case 8:
                    return comparison;
                case 9:
                    return number;
                case 10:
                    return on ? 1 : 0;
                case 11:
                    return firings;
                default:
                    return OUT_OF_RANGE;
            }
        }
    }

    /** The rules by number, and their numbers by rank; the objects from count on are spare. */
    private static final class RuleList {
        private final Rule[] rules = new Rule[MOST_RULES];
        private final int[] numbersByRank = new int[MOST_RULES];
        int count;

        RuleList() {
            for (int number = 0; number < rules.length; number++) {
                rules[number] = new Rule();
            }
        }

        Rule ruleOf(int number) {
            return number >= 0 && number < count && number < rules.length ? rules[number] : null;
        }

        int numberAt(int place) {
            return place >= 0 && place < count && place < numbersByRank.length ? numbersByRank[place] : NONE;
        }

        int numberAmong(int event, int moment, int wanted) {
            int passed = 0;
            for (int place = 0; place < count; place++) {
                int number = numberAt(place);
                Rule rule = ruleOf(number);
                if (rule != null && rule.isFor(event, moment)) {
                    if (passed == wanted) {
                        return number;
                    }
                    passed++;
                }
            }
            return NONE;
        }

        int countOn() {
            int on = 0;
            for (int number = 0; number < count; number++) {
                Rule rule = ruleOf(number);
                if (rule != null && rule.on) {
                    on++;
                }
            }
            return on;
        }

        /** The object that the next rule is to be written into, or null if there is no room. */
        Rule spare() {
            return count >= 0 && count < rules.length ? rules[count] : null;
        }

        /** Takes in the rule that was written into the spare object. */
        int takeSpare() {
            count++;
            sortByRank();
            return count - 1;
        }

        void drop(int number) {
            if (number < 0 || number >= count || number >= rules.length) {
                return;
            }
            Rule dropped = rules[number];
            int last = number;
            for (; last + 1 < count && last + 1 < rules.length; last++) {
                rules[last] = rules[last + 1];
            }
            rules[last] = dropped;
            count--;
            sortByRank();
        }

        /** Rules come in by their numbers, so one of the same rank stays behind those before it. */
        private void sortByRank() {
            for (int number = 0; number < count && number < numbersByRank.length; number++) {
                int place = number;
                for (; place > 0 && rankOf(numbersByRank[place - 1]) > rankOf(number); place--) {
                    numbersByRank[place] = numbersByRank[place - 1];
                }
                numbersByRank[place] = number;
            }
        }

        private int rankOf(int number) {
            Rule rule = ruleOf(number);
            return rule == null ? NONE : rule.rank;
        }

        void copyFrom(RuleList other) {
            count = other.count;
            for (int number = 0; number < count && number < rules.length; number++) {
                Rule rule = rules[number];
                Rule source = other.ruleOf(number);
                if (rule != null && source != null) {
                    rule.copyFrom(source);
                }
            }
            System.arraycopy(other.numbersByRank, 0, numbersByRank, 0, MOST_RULES);
        }
    }

    /** The recorded firings of the latest statement. */
    private static final class FiringLog {
        private final int[] rules = new int[MOST_RECORDED];
        private final int[] depths = new int[MOST_RECORDED];
        private final int[] keys = new int[MOST_RECORDED];
        int count;

        void add(int rule, int depth, int key) {
            if (count < 0 || count >= MOST_RECORDED) {
                return;
            }
            rules[count] = rule;
            depths[count] = depth;
            keys[count] = key;
            count++;
        }

        int tell(int index, int what) {
            if (index < 0 || index >= count || index >= MOST_RECORDED) {
                return NONE;
            }
            switch (what) {
                case 0:
                    return rules[index];
                case 1:
                    return depths[index];
                default:
                    return keys[index];
            }
        }

        void copyFrom(FiringLog other) {
            count = other.count;
            System.arraycopy(other.rules, 0, rules, 0, MOST_RECORDED);
            System.arraycopy(other.depths, 0, depths, 0, MOST_RECORDED);
            System.arraycopy(other.keys, 0, keys, 0, MOST_RECORDED);
        }
    }

    /** All that undo and restore bring back. */
    private static final class State {
        final Table table = new Table();
        final RuleList rules = new RuleList();
        final FiringLog record = new FiringLog();
        int greatestDepth = 4;
        int guarding;
        int statements;
        int operations;
        int firings;
        int deepest;

        void copyFrom(State other) {
            table.copyFrom(other.table);
            rules.copyFrom(other.rules);
            record.copyFrom(other.record);
            greatestDepth = other.greatestDepth;
            guarding = other.guarding;
            statements = other.statements;
            operations = other.operations;
            firings = other.firings;
            deepest = other.deepest;
        }

        int tell(int what) {
            switch (what) {
                case 0:
                    return table.count;
                case 1:
                    return rules.count;
                case 2:
                    return rules.countOn();
                case 3:
                    return greatestDepth;
                case 4:
                    return guarding;
                case 5:
                    return statements;
                case 6:
                    return operations;
                case 7:
                    return firings;
                case 8:
                    return deepest;
                case 9:
                    return record.count;
                default:
                    return OUT_OF_RANGE;
            }
        }
    }

    /** The latest states before changes, the oldest one first. */
    private static final class History {
        private final State[] states = new State[MOST_STATES];
        int count;

        History() {
            for (int age = 0; age < states.length; age++) {
                states[age] = new State();
            }
        }

        void push(State state) {
            if (count >= MOST_STATES) {
                dropOldest();
            }
            if (count < 0 || count >= states.length) {
                return;
            }
            State latest = states[count];
            if (latest != null) {
                latest.copyFrom(state);
                count++;
            }
        }

        boolean popInto(State state) {
            if (count < 1 || count > states.length) {
                return false;
            }
            State latest = states[count - 1];
            if (latest == null) {
                return false;
            }
            state.copyFrom(latest);
            count--;
            return true;
        }

        private void dropOldest() {
            for (int age = 1; age < states.length; age++) {
                State younger = states[age];
                states[age] = states[age - 1];
                states[age - 1] = younger;
            }
            count--;
        }
    }

    /** A depth with the image of the operation on it; the operations of one depth follow one another. */
    private static final class Level {
        final int depth;
        final Level deeper;
        final Row image = new Row();

        Level(int depth, Level deeper) {
            this.depth = depth;
            this.deeper = deeper;
        }
    }

    /**
     * Carries out statements on the state, and knows what the latest one came to. Of a refused one
     * the caller takes back what it did to the state.
     */
    private static final class Engine {
        final State state = new State();
        private final Level top;
        private final boolean[] firing = new boolean[MOST_RULES];
        private int operations;
        private int firings;
        private int deepest;
        private int reason;
        private int refusingRule;

        Engine() {
            Level level = null;
            for (int depth = MOST_DEPTH; depth > 1; depth--) {
                level = new Level(depth, level);
            }
            top = new Level(1, level);
        }

        /** Answers the error of an insert, or FINE. */
        int insertFault(int key, int zero, int one, int two) {
            if (!within(key, 0, MOST_KEY) || !isValue(zero) || !isValue(one) || !isValue(two)) {
                return OUT_OF_RANGE;
            }
            if (state.table.rowOf(key) != null) {
                return DUPLICATE;
            }
            return state.table.isFull() ? FULL : FINE;
        }

        /** Answers the error of an update, NONE if it is nothing, or FINE. */
        int updateFault(int key, int field, int value) {
            Row row = state.table.rowOf(key);
            if (row == null) {
                return UNKNOWN;
            }
            if (!within(field, 0, MOST_FIELD) || !isValue(value)) {
                return OUT_OF_RANGE;
            }
            return row.valueOf(field) == value ? NONE : FINE;
        }

        /** Answers the error of a delete, or FINE. */
        int deleteFault(int key) {
            return state.table.rowOf(key) == null ? UNKNOWN : FINE;
        }

        /** Answers the number of operations, or an error. */
        int runInsert(int key, int zero, int one, int two) {
            int fault = insertFault(key, zero, one, two);
            if (fault != FINE) {
                return fault;
            }
            top.image.fill(key, zero, one, two);
            return run(INSERT);
        }

        /** Answers the number of operations, an error, or NONE. */
        int runUpdate(int key, int field, int value) {
            int fault = updateFault(key, field, value);
            if (fault != FINE) {
                return fault;
            }
            prepareUpdate(top.image, key, field, value);
            return run(UPDATE);
        }

        /** Answers the number of operations, or an error. */
        int runDelete(int key) {
            int fault = deleteFault(key);
            if (fault != FINE) {
                return fault;
            }
            prepareDelete(top.image, key);
            return run(DELETE);
        }

        /** Runs the statement whose image stands in the top level. */
        private int run(int event) {
            begin();
            operate(event, top, NONE);
            if (reason != FINE) {
                return REFUSED;
            }
            state.statements++;
            state.operations += operations;
            state.firings += firings;
            state.deepest = Math.max(state.deepest, deepest);
            return operations;
        }

        int report(int what) {
            switch (what) {
                case 0:
                    return reason;
                case 1:
                    return refusingRule;
                case 2:
                    return operations;
                case 3:
                    return firings;
                default:
                    return deepest;
            }
        }

        private void begin() {
            state.record.count = 0;
            operations = 0;
            firings = 0;
            deepest = 0;
            reason = FINE;
            refusingRule = NONE;
        }

        private boolean canTake(int key) {
            return within(key, 0, MOST_KEY) && state.table.rowOf(key) == null && !state.table.isFull();
        }

        private boolean prepareUpdate(Row image, int key, int field, int value) {
            Row row = state.table.rowOf(key);
            if (row == null || row.valueOf(field) == value) {
                return false;
            }
            image.copyFrom(row);
            image.change(field, value);
            return true;
        }

        private boolean prepareDelete(Row image, int key) {
            Row row = state.table.rowOf(key);
            if (row == null) {
                return false;
            }
            image.copyFrom(row);
            return true;
        }

        /** Makes the image of the operation that a rule causes; false if that operation is nothing. */
        private boolean prepareCaused(Rule rule, Row row, Row image) {
            int value = rule.valueFor(row);
            switch (rule.kind) {
                case CAUSE_INSERT:
                    image.copyFrom(row);
                    image.key = value;
                    return canTake(value);
                case CAUSE_UPDATE:
                    return prepareUpdate(image, row.key == MOST_KEY ? 0 : row.key + 1, rule.a, value);
                default:
                    return prepareDelete(image, value);
            }
        }

        /** Does an operation that is not nothing, whose image stands in its level. */
        private void operate(int event, Level level, int cause) {
            if (operations >= MOST_OPERATIONS) {
                refuse(TOO_MANY, cause);
                return;
            }
            operations++;
            deepest = Math.max(deepest, level.depth);
            if (!fireRules(event, BEFORE, level)) {
                return;
            }
            carryOut(event, level.image);
            fireRules(event, AFTER, level);
        }

        private void carryOut(int event, Row image) {
            switch (event) {
                case INSERT:
                    state.table.take(image);
                    break;
                case UPDATE:
                    Row row = state.table.rowOf(image.key);
                    if (row != null) {
                        row.copyFrom(image);
                    }
                    break;
                default:
                    state.table.drop(image.key);
                    break;
            }
        }

        /** Answers whether the operation goes on. */
        private boolean fireRules(int event, int moment, Level level) {
            RuleList rules = state.rules;
            for (int place = 0; place < rules.count && place < MOST_RULES; place++) {
                int number = rules.numberAt(place);
                Rule rule = rules.ruleOf(number);
                if (rule != null && rule.on && rule.isFor(event, moment) && !isHeldBack(number)
                        && rule.holdsFor(level.image) && !fire(number, rule, level)) {
                    return false;
                }
            }
            return true;
        }

        /** Answers whether the operation goes on. */
        private boolean fire(int number, Rule rule, Level level) {
            firings++;
            rule.firings++;
            state.record.add(number, level.depth, level.image.key);
            switch (rule.kind) {
                case SET:
                    level.image.change(rule.a, rule.valueFor(level.image));
                    return true;
                case SKIP:
                    return false;
                case REFUSE:
                    refuse(BY_RULE, number);
                    return false;
                default:
                    cause(number, rule, level);
                    return reason == FINE;
            }
        }

        private void cause(int number, Rule rule, Level level) {
            Level deeper = level.deeper;
            if (deeper == null || level.depth >= state.greatestDepth) {
                refuse(TOO_DEEP, number);
                return;
            }
            if (prepareCaused(rule, level.image, deeper.image)) {
                mark(number, true);
                // The kinds that cause operations stand in the order of the events.
                operate(rule.kind - CAUSE_INSERT, deeper, number);
                mark(number, false);
            }
        }

        private boolean isHeldBack(int number) {
            return state.guarding == 1 && number >= 0 && number < firing.length && firing[number];
        }

        private void mark(int number, boolean isFiring) {
            if (number >= 0 && number < firing.length) {
                firing[number] = isFiring;
            }
        }

        private void refuse(int why, int number) {
            reason = why;
            refusingRule = number;
        }
    }

    /** The text, and the statement that was read last from it. */
    private static final class Text {
        private static final int END = -1;

        private final char[] characters = new char[MOST_CHARACTERS];
        int length;
        private int position;
        private boolean faulty;
        int event;
        int key;
        int field;
        int first;
        int second;
        int third;

        boolean append(char character) {
            if (length < 0 || length >= characters.length) {
                return false;
            }
            characters[length] = character;
            length++;
            return true;
        }

        void rewind() {
            position = 0;
            faulty = false;
        }

        /** Answers how many statements there are, or -2000 minus the fault. */
        int countStatements() {
            rewind();
            int count = 0;
            do {
                readStatement();
                count++;
            } while (!faulty && position < length && count < MOST_CHARACTERS);
            return faulty ? TEXT_FAULT - position : count;
        }

        void readStatement() {
            if (position > 0) {
                pass(';');
            }
            switch (here()) {
                case 'i':
                    readInsert();
                    break;
                case 'u':
                    readUpdate();
                    break;
                case 'd':
                    event = DELETE;
                    pass('d');
                    key = readNumber(2);
                    break;
                default:
                    faulty = true;
                    break;
            }
        }

        private void readInsert() {
            event = INSERT;
            pass('i');
            key = readNumber(2);
            pass('=');
            first = readValue();
            pass(',');
            second = readValue();
            pass(',');
            third = readValue();
        }

        private void readUpdate() {
            event = UPDATE;
            pass('u');
            key = readNumber(2);
            pass('.');
            field = readDigit(MOST_FIELD);
            pass('=');
            first = readValue();
        }

        private int readValue() {
            if (here() == '-') {
                position++;
                return -readNumber(3);
            }
            return readNumber(3);
        }

        private int readNumber(int mostDigits) {
            int number = readDigit(9);
            for (int digits = 1; digits < mostDigits && number > 0 && isDigit(here(), 9); digits++) {
                number = number * 10 + readDigit(9);
            }
            return number;
        }

        private int readDigit(int most) {
            int character = here();
            if (!isDigit(character, most)) {
                faulty = true;
                return 0;
            }
            position++;
            return character - '0';
        }

        private static boolean isDigit(int character, int most) {
            return character >= '0' && character <= '0' + most;
        }

        private void pass(char wanted) {
            if (here() == wanted) {
                position++;
            } else {
                faulty = true;
            }
        }

        /** Behind a fault nothing is here any more, so the position stays at the first fault. */
        private int here() {
            if (faulty || position < 0 || position >= length || position >= characters.length) {
                return END;
            }
            return characters[position];
        }
    }
}
