/** Compares the program with the model in many runs of up to 512 calls. */
public final class ModelTest {
    private static final int RUNS = 1500;
    private static final int CALLS = 512;

    private long seed;
    private FieldQuotas x;
    private Model m;
    private final int[] seen = new int[24];
    private int goodPlays;
    private int wrong;

    public static void main(String[] args) {
        ModelTest test = new ModelTest();
        for (int run = 0; run < RUNS && test.wrong == 0; run++) {
            test.run(run);
        }
        for (int i = 1; i < test.seen.length; i++) {
            if (test.seen[i] < RUNS) {
                test.wrong++;
                System.out.println("  call " + i + " answered without an error too seldom: "
                        + test.seen[i]);
            }
        }
        System.out.println("  " + RUNS + " runs of " + CALLS + " calls, " + test.wrong
                + " wrong, texts played: " + test.goodPlays);
        if (test.wrong != 0) {
            System.exit(1);
        }
    }

    private void run(int number) {
        seed = number * 2862933555777941757L + 3037000493L;
        x = new FieldQuotas();
        m = new Model();
        int style = below(4);
        for (int i = 0; i < 3 + below(6); i++) {
            step(number, i, 0);
            step(number, i, 1);
        }
        for (int i = 20; i < CALLS && wrong == 0; i++) {
            step(number, i, pick(style));
        }
    }

    /** Which call is next: styles differ in how often addresses, texts and undo come. */
    private int pick(int style) {
        int many = below(100);
        if (many < 40) {
            return style == 3 ? 20 + below(3) : 4 + below(2);
        }
        if (many < 48) {
            return 6;
        }
        if (many < 52 && style != 1) {
            return 18;
        }
        if (many < 60) {
            return style == 2 ? 0 : 13;
        }
        return below(23);
    }

    private int below(int bound) {
        seed = seed * 6364136223846793005L + 1442695040888963407L;
        return (int) ((seed >>> 33) % bound);
    }

    /** Mostly a number from 0 to most, now and then one beyond, seldom a far one. */
    private int about(int most) {
        int odd = below(60);
        if (odd == 0) {
            return new int[] {-1, most + 1, Integer.MIN_VALUE, Integer.MAX_VALUE}[below(4)];
        }
        return most <= 0 ? 0 : below(most + 1);
    }

    private int time() {
        return about(2);
    }

    private int whom() {
        return about(m.count(1) - 1);
    }

    private int where() {
        // Often one at which a call is possible, lest most calls be refused.
        if (below(3) > 0 && m.count(1) > 0) {
            int best = m.next(below(m.count(1)), below(3));
            if (best >= 0) {
                return best;
            }
        }
        return about(m.count(0) - 1);
    }

    private int soon() {
        return below(20) == 0 ? about(999) : m.count(2) + below(5);
    }

    private void step(int run, int at, int kind) {
        int a = 0;
        int b = 0;
        int c = 0;
        int d = 0;
        int e = 0;
        long got;
        long want;
        switch (kind) {
            case 0: a = about(3); got = x.address(a); want = m.address(a); break;
            case 1: a = about(3); b = 1 + about(8);
                got = x.interviewer(a, b); want = m.interviewer(a, b); break;
            case 2: a = about(3); b = about(2); c = below(2) == 0 ? about(3) : about(20);
                got = x.quota(a, b, c); want = m.quota(a, b, c); break;
            case 3: a = about(3); b = about(2); c = below(4) == 0 ? about(2) : about(9999);
                got = x.population(a, b, c); want = m.population(a, b, c); break;
            case 4: a = whom(); b = where(); c = time(); d = below(2) == 0 ? 0 : about(4);
                got = x.call(a, b, c, d); want = m.call(a, b, c, d); break;
            case 5: a = whom(); b = where(); c = time(); d = soon(); e = time();
                got = x.later(a, b, c, d, e); want = m.later(a, b, c, d, e); break;
            case 6: a = below(3) > 0 ? 1 : about(99); got = x.pass(a); want = m.pass(a); break;
            case 7: a = about(1); b = about(9); got = x.set(a, b); want = m.set(a, b); break;
            case 8: a = about(m.count(0) - 1); b = about(9);
                got = x.addressOf(a, b); want = m.addressOf(a, b); break;
            case 9: a = whom(); b = about(5);
                got = x.interviewerOf(a, b); want = m.interviewerOf(a, b); break;
            case 10: a = about(3); b = about(2); c = about(4);
                got = x.cellOf(a, b, c); want = m.cellOf(a, b, c); break;
            case 11: a = about(7); got = x.addresses(a); want = m.addresses(a); break;
            case 12: a = about(11); got = x.count(a); want = m.count(a); break;
            case 13: a = whom(); b = time(); got = x.next(a, b); want = m.next(a, b); break;
            case 14: a = whom(); b = time(); got = x.possible(a, b); want = m.possible(a, b); break;
            case 15: got = x.daysLeft(); want = m.daysLeft(); break;
            case 16: got = x.rateBits(); want = m.rateBits(); break;
            case 17: a = about(2); got = x.partBits(a); want = m.partBits(a); break;
            case 18: got = x.undo(); want = m.undo(); break;
            case 19: got = x.clearText(); want = m.clearText(); break;
            case 20: got = typeSome(run, at); want = 0; break;
            case 21: a = about(1); got = x.fault(a); want = m.fault(a); break;
            default: got = x.play(); want = m.play(); goodPlays += got > 0 ? 1 : 0; break;
        }
        seen[kind + 1] += got >= 0 ? 1 : 0;
        check("run " + run + ", call " + at + ": kind " + kind + " with " + a + " " + b + " " + c
                + " " + d + " " + e, got, want);
    }

    private void check(String what, long got, long want) {
        if (got != want) {
            wrong++;
            System.out.println("  " + what + " answered " + got + ", due is " + want);
        }
    }

    private int typeSome(int run, int at) {
        String text = command();
        if (below(15) == 0) {
            text = spoiled(text);
        }
        for (int i = 0; i < text.length(); i++) {
            check("run " + run + ", call " + at + ": type", x.type(text.charAt(i)),
                    m.type(text.charAt(i)));
        }
        return 0;
    }

    private String spoiled(String text) {
        int at = below(text.length());
        switch (below(4)) {
            case 0:
                return text.substring(0, at) + text.substring(at + 1);
            case 1:
                return text.substring(0, at) + (char) (30 + below(100)) + text.substring(at);
            case 2:
                return text.substring(0, at) + " " + text.substring(at);
            default:
                return text.substring(0, at);
        }
    }

    private String command() {
        String who = digits(whom()) + " " + digits(where()) + " " + digits(time());
        switch (below(8)) {
            case 0:
                return "address " + digits(about(3)) + ";";
            case 1:
                return "quota " + digits(about(3)) + " " + digits(about(2)) + " "
                        + digits(about(20)) + ";";
            case 2:
                return "refuse " + who + ";";
            case 3:
                return "take " + who + " " + digits(about(2)) + ";";
            case 4:
                return "later " + who + " " + digits(soon()) + " " + digits(time()) + ";";
            case 5:
                return "day " + digits(below(3) > 0 ? 1 : about(99)) + ";";
            default:
                return "none " + who + ";";
        }
    }

    private String digits(int number) {
        int small = number < 0 || number > 9999 ? 999 : number;
        return below(6) == 0 ? "0" + small : below(12) == 0 ? "00" + small : "" + small;
    }
}
