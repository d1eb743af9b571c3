/** Any arguments in any state: no call throws by itself, also beyond its 512th. */
public final class NothingThrowsTest {
    private static final int[] NUMBERS = {0, 1, 2, 3, 4, 5, 9, 20, 23, 24, 59, 97, 999, 1000, -1,
        -2, Integer.MIN_VALUE, Integer.MIN_VALUE + 1, Integer.MAX_VALUE, Integer.MAX_VALUE - 1,
        1 << 30, -(1 << 30), 715827883, 429496730};
    private static final int CALLS = 40000;

    private static long seed = 7;

    public static void main(String[] args) {
        for (int run = 0; run < 20; run++) {
            FieldQuotas x = new FieldQuotas();
            for (int call = 0; call < CALLS; call++) {
                int kind = (int) (next() % 23);
                try {
                    any(x, kind);
                } catch (Throwable thrown) {
                    System.out.println("  kind " + kind + " threw " + thrown);
                    System.exit(1);
                }
            }
        }
        System.out.println("  nothing throws");
    }

    private static long next() {
        seed = seed * 6364136223846793005L + 1442695040888963407L;
        return seed >>> 33;
    }

    /** Half of the numbers are small, so that calls are also done. */
    private static int some() {
        return next() % 8 < 5 ? (int) (next() % 5) : NUMBERS[(int) (next() % NUMBERS.length)];
    }

    private static void any(FieldQuotas x, int kind) {
        switch (kind) {
            case 0: x.address(some()); break;
            case 1: x.interviewer(some(), some()); break;
            case 2: x.quota(some(), some(), some()); break;
            case 3: x.population(some(), some(), some()); break;
            case 4: x.call(some(), some(), some(), some()); break;
            case 5: x.later(some(), some(), some(), some(), some()); break;
            case 6: x.pass(some()); break;
            case 7: x.set(some(), some()); break;
            case 8: x.addressOf(some(), some()); break;
            case 9: x.interviewerOf(some(), some()); break;
            case 10: x.cellOf(some(), some(), some()); break;
            case 11: x.addresses(some()); break;
            case 12: x.count(some()); break;
            case 13: x.next(some(), some()); break;
            case 14: x.possible(some(), some()); break;
            case 15: x.daysLeft(); break;
            case 16: x.rateBits(); break;
            case 17: x.partBits(some()); break;
            case 18: x.undo(); break;
            case 19: text(x); break;
            case 20: x.clearText(); x.fault(some()); break;
            case 21: x.fault(some()); break;
            default: x.play(); break;
        }
    }

    private static void text(FieldQuotas x) {
        String[] parts = {"address", "quota", "none", "refuse", "take", "later", "day", " ", " 0",
            " 1", " 2", " 999", ";", "x", " 0 0 0", " 0 0 0 0;", "day 1;", "none 0 0 1;"};
        String part = parts[(int) (next() % parts.length)];
        for (int i = 0; i < part.length(); i++) {
            x.type(part.charAt(i));
        }
        x.type(some());
    }
}
