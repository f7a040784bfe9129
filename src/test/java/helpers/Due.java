import java.util.function.IntUnaryOperator;

/** Prints every answer that is not as due, and counts them. */
final class Due {
    private static int asked;
    private static int wrong;
    private static int sentences;
    private static String sentence = "";

    private Due() {
    }

    /**
     * Says which sentence of the document the answers behind it are about: the section or the promise it stands in,
     * and its words.
     */
    static void sentence(String place, String words) {
        sentences++;
        sentence = place + ": " + words;
    }

    static void is(String call, long got, long want) {
        asked++;
        if (got != want) {
            miss(call + " answered " + got + ", due is " + want);
        }
    }

    static void holds(String what, boolean held) {
        asked++;
        if (!held) {
            miss(what);
        }
    }

    private static void miss(String line) {
        wrong++;
        System.out.println(line + (sentence.isEmpty() ? "" : "   [" + sentence + "]"));
    }

    /**
     * The last values on both sides that are allowed, with the answers that are due for them, and the first ones (and
     * the farthest ones) that are not, with their error. The call makes its object itself.
     */
    static void range(String name, int least, int most, IntUnaryOperator due, int error, IntUnaryOperator call) {
        is(name + " " + least, call.applyAsInt(least), due.applyAsInt(least));
        is(name + " " + most, call.applyAsInt(most), due.applyAsInt(most));
        for (int value : new int[] {least - 1, most + 1, Integer.MIN_VALUE, Integer.MAX_VALUE}) {
            is(name + " " + value, call.applyAsInt(value), error);
        }
    }

    /** Ends the test: with exit code 1 if an answer was wrong, or if nothing was asked. */
    static void end() {
        System.out.println(asked + " answers, " + wrong + " not as due"
                + (sentences == 0 ? "" : ", on " + sentences + " sentences"));
        if (wrong != 0 || asked == 0) {
            System.exit(1);
        }
    }

    /** Types a whole text; answers the last length. */
    static int typed(RuleDepths x, String text) {
        int length = x.total(11);
        for (int i = 0; i < text.length(); i++) {
            length = x.type(text.charAt(i));
        }
        return length;
    }

    /** Performs a text in place of the one that stands there. */
    static int performed(RuleDepths x, String text) {
        x.clearText();
        typed(x, text);
        return x.perform();
    }

    /** Inserts rows with the keys from first to last, all fields 0. */
    static void rows(RuleDepths x, int first, int last) {
        for (int key = first; key <= last; key++) {
            is("insert of the row " + key, x.insert(key, 0, 0, 0), 1);
        }
    }

    /** Inserts rows with these keys, all fields 0, whatever the rules make of them. */
    static void rowsOf(RuleDepths x, int... keys) {
        for (int key : keys) {
            is("insert of the row " + key, x.insert(key, 0, 0, 0) > 0 ? 1 : 0, 1);
        }
    }
}
