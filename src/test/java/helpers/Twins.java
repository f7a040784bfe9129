import java.util.function.Consumer;
import java.util.function.ToIntFunction;

/**
 * Shows that a call changed nothing: of two objects that are made alike only one gets the call, and then both are
 * asked the same. Each pair is asked for something else (what there is, the states of the history, the text, the
 * snapshot), so that none of the objects comes to 512 calls.
 */
final class Twins {
    private static final int MOST_CALLS = 512;
    private static final int UNDOS = 5;
    private static final int WAYS = UNDOS + 3;

    private Twins() {
    }

    /** The call is to answer what is due, and to change nothing. */
    static void unchanged(String name, Consumer<RuleDepths> made, ToIntFunction<RuleDepths> call, int due) {
        for (int way = 0; way < WAYS; way++) {
            RuleDepths asked = new RuleDepths();
            RuleDepths other = new RuleDepths();
            made.accept(asked);
            made.accept(other);
            Due.is(name, call.applyAsInt(asked), due);
            same("after " + name, sight(asked, way), sight(other, way));
        }
    }

    private static void same(String when, String got, String want) {
        String[] gotLines = got.split("\n");
        String[] wantLines = want.split("\n");
        for (int i = 0; i < gotLines.length && i < wantLines.length; i++) {
            if (!gotLines[i].equals(wantLines[i])) {
                Due.holds(when + ": " + gotLines[i] + ", without it: " + wantLines[i], false);
                return;
            }
        }
        Due.holds(when + ": " + got.length() + " and " + want.length() + " signs", got.equals(want));
    }

    /** What an object shows after up to five undos, a perform, or a restore. */
    private static String sight(RuleDepths x, int way) {
        StringBuilder seen = new StringBuilder();
        if (way <= UNDOS) {
            for (int undos = 0; undos < way; undos++) {
                seen.append("undo answers ").append(x.undo()).append('\n');
            }
        } else if (way == UNDOS + 1) {
            seen.append("perform answers ").append(x.perform()).append('\n');
        } else {
            seen.append("restore answers ").append(x.restore()).append('\n');
        }
        all(x, seen);
        return seen.toString();
    }

    /** Everything that the calls tell of the object as it is. */
    private static void all(RuleDepths x, StringBuilder seen) {
        // So many may have been used to make it.
        int calls = 70;
        for (int what = 0; what < 12; what++, calls++) {
            tell(seen, "total", what, 0, x.total(what));
        }
        int rows = x.total(0);
        for (int rank = 0; rank <= rows; rank++, calls += 4) {
            int key = x.keyAt(rank);
            tell(seen, "keyAt", rank, 0, key);
            for (int field = 0; field < 3 && key >= 0; field++) {
                tell(seen, "field", key, field, x.field(key, field));
            }
        }
        int rules = x.total(1);
        for (int rule = 0; rule < rules; rule++) {
            for (int what = 0; what < 12; what++, calls++) {
                tell(seen, "rule", rule, what, x.rule(rule, what));
            }
        }
        for (int group = 0; group < 6; group++) {
            int number = 0;
            for (int place = 0; number >= 0; place++, calls++) {
                number = x.order(group / 2, group % 2, place);
                tell(seen, "order", group, place, number);
            }
        }
        int recorded = x.total(9);
        for (int index = 0; index <= recorded; index++) {
            for (int what = 0; what < 3; what++, calls++) {
                tell(seen, "firing", index, what, x.firing(index, what));
            }
        }
        Due.holds("an object was used for " + calls + " calls", calls <= MOST_CALLS);
    }

    private static void tell(StringBuilder seen, String call, int first, int second, int answer) {
        seen.append(call).append('(').append(first).append(", ").append(second).append(") answers ").append(answer)
                .append('\n');
    }
}
