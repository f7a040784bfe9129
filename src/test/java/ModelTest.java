/**
 * Random runs of calls (always the same ones), compared with the model call by call; each ends with all that the calls
 * tell, and none comes to more than the 512 calls for which an object is used.
 */
public final class ModelTest {
    private static final int RUNS = 12000;
    private static final int CALLS = 512;
    /** No step makes more calls: a text of five statements, clearing, performing. */
    private static final int STEP_CALLS = 120;

    private static long seed;
    private static int wrong;
    private static int run;
    private static int calls;

    public static void main(String[] args) {
        int[] reasons = new int[4];
        int performed = 0;
        for (run = 0; run < RUNS && wrong < 20; run++) {
            seed = 7919L * run + 17;
            Model model = new Model();
            oneRun(new RuleDepths(), model);
            for (int reason = 0; reason < 4; reason++) {
                reasons[reason] += model.reasons[reason];
            }
            performed += model.performed;
        }
        System.out.println("not refused " + reasons[0] + ", by a rule " + reasons[1] + ", too deep " + reasons[2]
                + ", too many " + reasons[3] + ", texts performed " + performed);
        boolean reached = reasons[1] > 1000 && reasons[2] > 1000 && reasons[3] > 300 && performed > 1000;
        if (wrong != 0 || !reached) {
            System.exit(1);
        }
    }

    /** The least of the numbers below bound is 0. */
    private static int below(int bound) {
        seed = seed * 6364136223846793005L + 1442695040888963407L;
        return (int) ((seed >>> 33) % bound);
    }

    private static void same(String name, int got, int want) {
        calls++;
        if (got != want) {
            wrong++;
            System.out.println("run " + run + ", call " + calls + ": " + name + " answered " + got + ", due is " + want);
        }
    }

    /** A number mostly from least to most, now and then just outside, seldom far outside. */
    private static int near(int least, int most) {
        int way = below(40);
        if (way == 0) {
            return least - 1;
        }
        if (way == 1) {
            return most + 1;
        }
        if (way == 2 && below(4) == 0) {
            return below(2) == 0 ? Integer.MIN_VALUE : Integer.MAX_VALUE;
        }
        return least + below(most - least + 1);
    }

    private static int value() {
        int way = below(20);
        if (way == 0) {
            return near(-999, 999);
        }
        return way == 1 ? below(2) * 1998 - 999 : near(-3, 12);
    }

    private static int key(int style) {
        return style == 0 ? near(0, 99) : style == 1 ? (below(8) + 97) % 100 : near(0, 11);
    }

    private static void oneRun(RuleDepths x, Model m) {
        calls = 0;
        int style = below(5);
        if (below(4) == 0) {
            dense(x, m);
        }
        while (calls + STEP_CALLS + callsForAll(m) <= CALLS && wrong < 20) {
            int way = below(100);
            if (way < 20) {
                rules(x, m);
            } else if (way < 70) {
                statements(x, m, style);
            } else if (way < 73) {
                texts(x, m, style);
            } else if (way < 79) {
                histories(x, m);
            } else if (way < 83) {
                views(x, m, style);
            } else {
                whatIfs(x, m, style);
            }
        }
        all(x, m);
    }

    /** Begins a run with rows and rules by which statements grow large. */
    private static void dense(RuleDepths x, Model m) {
        for (int key = 0; key < 10; key++) {
            same("insert", x.insert(key, key, 0, 0), m.statement(0, key, key, 0, 0));
        }
        for (int rule = 0; rule < 9; rule++) {
            int kind = rule < 5 ? 4 : 3 + below(3);
            int event = rule < 5 ? 1 : below(3);
            int a = below(3);
            int b = below(4);
            int c = below(7) - 2;
            same("addRule", x.addRule(event, 1, rule, kind, a, b, c), m.addRule(event, 1, rule, kind, a, b, c));
            int most = 2 + below(9);
            same("setCondition", x.setCondition(rule, 3, 1, most), m.setCondition(rule, 3, 1, most));
        }
        same("set", x.set(0, 8), m.set(0, 8));
    }

    private static void rules(RuleDepths x, Model m) {
        int way = below(20);
        int rule = near(0, 11);
        if (way < 8) {
            int event = near(0, 2);
            int moment = below(3) == 0 ? near(0, 1) : 1;
            int rank = below(3) == 0 ? near(0, 99) : near(0, 3);
            int kind = moment == 1 ? below(8) == 0 ? near(1, 5) : 3 + below(3) : near(0, 2);
            int a = near(0, 2);
            int b = near(0, 3);
            int c = below(3) == 0 ? value() : near(-2, 2);
            same("addRule", x.addRule(event, moment, rank, kind, a, b, c),
                    m.addRule(event, moment, rank, kind, a, b, c));
        } else if (way < 13) {
            int field = near(0, 3);
            int comparison = near(0, 5);
            int number = value();
            same("setCondition", x.setCondition(rule, field, comparison, number),
                    m.setCondition(rule, field, comparison, number));
        } else if (way < 15) {
            boolean on = below(3) > 0;
            same("put", x.put(rule, on), m.put(rule, on));
        } else if (way < 16) {
            same("removeRule", x.removeRule(rule), m.removeRule(rule));
        } else {
            int setting = near(0, 1);
            int value = setting == 0 ? near(1, 8) : near(0, 1);
            same("set", x.set(setting, value), m.set(setting, value));
        }
    }

    private static void statements(RuleDepths x, Model m, int style) {
        int key = key(style);
        int way = below(10);
        if (way < 4) {
            int zero = value();
            int one = value();
            int two = value();
            same("insert", x.insert(key, zero, one, two), m.statement(0, key, zero, one, two));
        } else if (way < 9) {
            int field = near(0, 2);
            int value = value();
            same("update", x.update(key, field, value), m.statement(1, key, field, value));
        } else {
            same("delete", x.delete(key), m.statement(2, key));
        }
    }

    private static void texts(RuleDepths x, Model m, int style) {
        if (below(3) > 0) {
            same("clearText", x.clearText(), m.clearText());
        }
        StringBuilder text = new StringBuilder();
        for (int statements = 1 + below(5); statements > 0; statements--) {
            text.append(text.length() == 0 ? "" : ";");
            int key = Math.floorMod(key(style), 100);
            switch (below(3)) {
                case 0:
                    text.append('i').append(key).append('=').append(value()).append(',').append(value()).append(',')
                            .append(value());
                    break;
                case 1:
                    text.append('u').append(key).append('.').append(below(3)).append('=').append(value());
                    break;
                default:
                    text.append('d').append(key);
                    break;
            }
        }
        if (below(3) == 0) {
            String signs = "iud=.,;-0123456789 x";
            text.setCharAt(below(text.length()), signs.charAt(below(signs.length())));
        }
        if (below(8) == 0) {
            text.setLength(below(text.length()));
        }
        for (int i = 0; i < text.length(); i++) {
            same("type", x.type(text.charAt(i)), m.type(text.charAt(i)));
        }
        same("perform of " + text, x.perform(), m.perform());
    }

    private static void histories(RuleDepths x, Model m) {
        switch (below(4)) {
            case 0:
                same("keep", x.keep(), m.keep());
                break;
            case 1:
                same("restore", x.restore(), m.restore());
                break;
            default:
                same("undo", x.undo(), m.undo());
                break;
        }
    }

    private static void views(RuleDepths x, Model m, int style) {
        int key = key(style);
        int what = near(0, 11);
        int small = near(0, 3);
        int rank = near(0, 20);
        same("field", x.field(key, small), m.field(key, small));
        same("keyAt", x.keyAt(rank), m.keyAt(rank));
        same("rule", x.rule(rank, what), m.rule(rank, what));
        same("order", x.order(small, what, rank), m.order(small, what, rank));
        same("firing", x.firing(rank, small), m.firing(rank, small));
        same("total", x.total(what), m.total(what));
    }

    private static void whatIfs(RuleDepths x, Model m, int style) {
        int key = key(style);
        int what = near(0, 4);
        int field = near(0, 2);
        int value = value();
        switch (below(4)) {
            case 0:
                same("ifInserted", x.ifInserted(key, value, what, field, what),
                        m.ifDone(what, 0, key, value, what, field));
                break;
            case 1:
                same("ifUpdated", x.ifUpdated(key, field, value, what), m.ifDone(what, 1, key, field, value));
                break;
            case 2:
                same("ifDeleted", x.ifDeleted(key, what), m.ifDone(what, 2, key));
                break;
            default:
                same("depthFor", x.depthFor(key, field, value), m.depthFor(key, field, value));
                break;
        }
    }

    private static int callsForAll(Model m) {
        return 12 + 13 * m.state.rules.size() + 4 * m.state.rows.size() + 3 * m.state.record.size() + 6 + 1;
    }

    /** The last step may have made the state larger, so that it can't be asked for all. */
    private static boolean mayAsk() {
        return calls < CALLS;
    }

    /** All that the calls tell of the state. */
    private static void all(RuleDepths x, Model m) {
        for (int what = 0; what < 12; what++) {
            same("total(" + what + ")", x.total(what), m.total(what));
        }
        for (int what = 0; what < 12; what++) {
            for (int rule = 0; rule < m.state.rules.size() && mayAsk(); rule++) {
                same("rule(" + rule + ", " + what + ")", x.rule(rule, what), m.rule(rule, what));
            }
        }
        for (int rank = 0; rank <= m.state.rows.size() && mayAsk(); rank++) {
            int key = m.keyAt(rank);
            same("keyAt(" + rank + ")", x.keyAt(rank), key);
            for (int field = 0; field < 3 && key >= 0 && mayAsk(); field++) {
                same("field(" + key + ", " + field + ")", x.field(key, field), m.field(key, field));
            }
        }
        for (int group = 0; group < 6; group++) {
            int rules = m.state.inOrder(group / 2, group % 2).size();
            for (int place = 0; place <= rules && mayAsk(); place++) {
                same("order", x.order(group / 2, group % 2, place), m.order(group / 2, group % 2, place));
            }
        }
        for (int index = 0; index <= m.state.record.size(); index++) {
            for (int what = 0; what < 3 && mayAsk(); what++) {
                same("firing(" + index + ", " + what + ")", x.firing(index, what), m.firing(index, what));
            }
        }
    }
}
