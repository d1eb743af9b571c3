/** Counts the answers that are not due; each test makes one and ends with finish(). */
final class Due {
    private int wrong = 0;
    private int asked = 0;

    int wrong() {
        return wrong;
    }

    int asked() {
        return asked;
    }

    void is(String what, long got, long want) {
        asked++;
        if (got != want) {
            wrong++;
            System.out.println("  " + what + " answered " + got + ", due is " + want);
        }
    }

    void same(String what, String got, String want) {
        asked++;
        if (!got.equals(want)) {
            wrong++;
            System.out.println("  " + what + ":\n    got  " + got + "\n    want " + want);
        }
    }

    void holds(String what, boolean truth) {
        asked++;
        if (!truth) {
            wrong++;
            System.out.println("  " + what + " does not hold");
        }
    }

    /** Tests that a call of an object of this state returns an error and changes nothing. */
    void refuses(String what, long want, State state, Call call) {
        FieldQuotas tried = state.make();
        is(what, call.on(tried), want);
        same(what + " changes nothing", Snapshot.of(tried), Snapshot.of(state.make()));
        FieldQuotas again = state.make();
        call.on(again);
        same(what + " changes nothing in the history", Snapshot.ofHistory(again),
                Snapshot.ofHistory(state.make()));
    }

    /** Tests that numbers out of this range are INVALID_ARGUMENT and change nothing. */
    void bounds(String what, int least, int most, State state, Argument call) {
        int[] numbers = {least - 1, most + 1, -most - 1, least - 256, least + 256, least - 65536,
            least + 65536, most + (1 << 30), least - (1 << 30), Integer.MAX_VALUE,
            Integer.MIN_VALUE, Integer.MIN_VALUE + least, Integer.MIN_VALUE + most};
        for (int number : numbers) {
            if (number < least || number > most) {
                refuses(what + " " + number, -1, state, x -> call.on(x, number));
            }
        }
    }

    void finish() {
        System.out.println("  " + asked + " asked, " + wrong + " wrong");
        if (wrong != 0 || asked == 0) {
            System.exit(1);
        }
    }

    /** Makes an object in a certain state, the same one each time. */
    interface State {
        FieldQuotas make();
    }

    interface Call {
        int on(FieldQuotas x);
    }

    interface Argument {
        int on(FieldQuotas x, int number);
    }

    /** Types a text. */
    static void write(FieldQuotas x, String text) {
        for (int i = 0; i < text.length(); i++) {
            x.type(text.charAt(i));
        }
    }

    /** Empties the text and types another. */
    static void rewrite(FieldQuotas x, String text) {
        x.clearText();
        write(x, text);
    }
}
