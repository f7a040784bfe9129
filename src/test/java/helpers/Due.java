/** Prints every answer that is not as due, and counts them. */
final class Due {
    private static int asked;
    private static int wrong;

    private Due() {
    }

    static void is(String call, long got, long want) {
        asked++;
        if (got != want) {
            wrong++;
            System.out.println(call + " answered " + got + ", due is " + want);
        }
    }

    /** Ends the test: with exit code 1 if an answer was wrong, or if nothing was asked. */
    static void end() {
        System.out.println(asked + " answers, " + wrong + " not as due");
        if (wrong != 0 || asked == 0) {
            System.exit(1);
        }
    }

    /** Types a whole text; answers the last length. */
    static int typed(RuleDepths x, String text) {
        int length = x.total(11);
        for (int i = 0; i < text.length(); i++) {
            length = x.type(text.charAt(i));
        }
        return length;
    }

    /** Performs a text in place of the one that stands there. */
    static int performed(RuleDepths x, String text) {
        x.clearText();
        typed(x, text);
        return x.perform();
    }

    /** Inserts rows with the keys from first to last, all fields 0. */
    static void rows(RuleDepths x, int first, int last) {
        for (int key = first; key <= last; key++) {
            is("insert of the row " + key, x.insert(key, 0, 0, 0), 1);
        }
    }

    /** Inserts rows with these keys, all fields 0, whatever the rules make of them. */
    static void rowsOf(RuleDepths x, int... keys) {
        for (int key : keys) {
            is("insert of the row " + key, x.insert(key, 0, 0, 0) > 0 ? 1 : 0, 1);
        }
    }
}
