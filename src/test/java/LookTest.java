/** Promises 10 to 14: what there is. */
public final class LookTest {
    private static final Due due = new Due();

    public static void main(String[] args) {
        addressOf();
        interviewerOf();
        cellOf();
        weights();
        addresses();
        count();
        wrongArguments();
        due.finish();
    }

    private static FieldQuotas start() {
        FieldQuotas x = new FieldQuotas();
        x.interviewer(1, 9);
        x.interviewer(3, 5);
        x.address(3);
        x.address(1);
        x.address(0);
        return x;
    }

    private static void row(String what, FieldQuotas x, int address, int... want) {
        for (int i = 0; i < want.length; i++) {
            due.is("10: " + what + ": " + i, x.addressOf(address, i), want[i]);
        }
    }

    private static void addressOf() {
        FieldQuotas x = start();
        row("a new one", x, 0, 3, 0, 0, 0, -4, -4, -4, -4, -4, -4);
        x.call(1, 0, 2, 0);
        row("after a call", x, 0, 3, 0, 1, 1, 0, 2, -4, -4, -4, 1);
        x.pass(3);
        x.later(0, 0, 1, 12, 0);
        row("with an appointment", x, 0, 3, 0, 2, 1, 3, 1, 12, 0, -4, 0);
        x.pass(9);
        x.call(1, 0, 0, 4);
        row("interviewed", x, 0, 3, 1, 3, 1, 12, 0, -4, -4, 2, 1);
        x.call(0, 1, 2, 1);
        row("refused", x, 1, 1, 2, 1, 0, 12, 2, -4, -4, -4, 0);
        x.quota(0, 0, 0);
        x.call(0, 2, 1, 2);
        row("not wanted", x, 2, 0, 4, 1, 0, 12, 1, -4, -4, -4, 0);
        notReached();
    }

    private static void notReached() {
        FieldQuotas x = start();
        x.set(0, 1);
        x.call(1, 0, 0, 0);
        row("not reached", x, 0, 3, 3, 1, 1, 0, 0, -4, -4, -4, 1);
    }

    private static void interviewerOf() {
        FieldQuotas x = start();
        x.call(0, 0, 0, 2);
        x.call(0, 1, 0, 0);
        x.later(0, 2, 0, 1, 0);
        int[] today = {1, 9, 3, 3, 1, 2};
        int[] tomorrow = {1, 9, 0, 3, 1, 2};
        int[] other = {3, 5, 0, 0, 0, 0};
        for (int what = 0; what <= 5; what++) {
            due.is("11: today " + what, x.interviewerOf(0, what), today[what]);
            due.is("11: another " + what, x.interviewerOf(1, what), other[what]);
        }
        x.pass(1);
        for (int what = 0; what <= 5; what++) {
            due.is("11: tomorrow " + what, x.interviewerOf(0, what), tomorrow[what]);
        }
        for (int i = 0; i < 4; i++) {
            x.undo();
        }
        due.is("11: the state of the earliest undo", x.interviewerOf(0, 3), 0);
        undoneInterviewer();
    }

    /** An interviewer who is added in the place of one that was undone has no calls. */
    private static void undoneInterviewer() {
        FieldQuotas x = new FieldQuotas();
        x.address(0);
        x.interviewer(1, 2);
        x.call(0, 0, 0, 2);
        x.undo();
        x.undo();
        due.is("11: it is gone", x.interviewerOf(0, 0), -1);
        x.interviewer(2, 3);
        int[] want = {2, 3, 0, 0, 0, 0};
        for (int what = 0; what <= 5; what++) {
            due.is("11: in its place " + what, x.interviewerOf(0, what), want[what]);
        }
    }

    private static void cellOf() {
        FieldQuotas x = start();
        x.population(1, 2, 77);
        x.quota(1, 2, 1);
        x.call(0, 1, 0, 4);
        due.is("12: quota", x.cellOf(1, 2, 0), 1);
        due.is("12: interviews", x.cellOf(1, 2, 1), 1);
        due.is("12: wanted", x.cellOf(1, 2, 2), 0);
        due.is("12: population", x.cellOf(1, 2, 3), 77);
        due.is("12: weight", x.cellOf(1, 2, 4), Float.floatToIntBits(77f));
        x.quota(1, 2, 20);
        due.is("12: wanted", x.cellOf(1, 2, 2), 19);
        x.quota(1, 2, 0);
        due.is("12: at least 0", x.cellOf(1, 2, 2), 0);
        due.is("12: another cell", x.cellOf(1, 1, 1), 0);
        due.is("12: no weight", x.cellOf(1, 1, 4), -4);
    }

    private static void weights() {
        int[] people = {0, 1, 2, 3, 7, 99, 100, 1000, 4097, 9998, 9999};
        for (int many = 1; many <= 20; many++) {
            FieldQuotas x = new FieldQuotas();
            x.quota(2, 1, 20);
            for (int i = 0; i < many; i++) {
                x.address(2);
                x.interviewer(0, 9);
                x.call(i % 5, i, 0, 3);
            }
            for (int number : people) {
                x.population(2, 1, number);
                due.is("12: " + number + " by " + many, x.cellOf(2, 1, 4),
                        Float.floatToIntBits((float) number / (float) many));
            }
        }
    }

    private static void addresses() {
        FieldQuotas x = new FieldQuotas();
        x.interviewer(0, 9);
        x.quota(0, 0, 1);
        for (int i = 0; i < 9; i++) {
            x.address(0);
        }
        x.later(0, 0, 0, 3, 0);
        x.call(0, 1, 0, 2);
        x.call(0, 2, 0, 2);
        x.call(0, 3, 0, 1);
        x.call(0, 4, 0, 0);
        x.later(0, 5, 0, 1, 0);
        x.set(0, 1);
        x.call(0, 6, 0, 0);
        x.later(0, 7, 0, 3, 0);
        x.pass(3);
        x.call(0, 7, 0, 1);
        int open = 1 | 1 << 4 | 1 << 5 | 1 << 8;
        int[] want = {open, 1 << 1, 1 << 3 | 1 << 7, 1 << 6, 1 << 2, 1 | 1 << 5, 1 << 5, 1 << 8};
        for (int what = 0; what < want.length; what++) {
            due.is("13: addresses(" + what + ")", x.addresses(what), want[what]);
        }
        x.pass(1);
        due.is("13: over", x.addresses(6), 1 | 1 << 5);
        due.is("13: with appointments", x.addresses(5), 1 | 1 << 5);
    }

    private static void count() {
        FieldQuotas x = start();
        x.call(0, 0, 0, 0);
        x.call(0, 1, 0, 3);
        x.later(1, 2, 0, 8, 1);
        x.pass(6);
        x.quota(1, 1, 0);
        x.set(0, 7);
        x.set(1, 5);
        Due.write(x, "ab");
        int[] want = {3, 2, 6, 3, 1, 1, 22, 1, 4, 2, 7, 5};
        for (int what = 0; what < want.length; what++) {
            due.is("14: count(" + what + ")", x.count(what), want[what]);
        }
        x.quota(0, 0, 20);
        due.is("14: wanted of all cells", x.count(6), 40);
    }

    private static void wrongArguments() {
        FieldQuotas x = start();
        due.is("10: address -1", x.addressOf(-1, 0), -1);
        due.is("10: address 3", x.addressOf(3, 0), -1);
        due.is("10: what -1", x.addressOf(0, -1), -1);
        due.is("10: what 10", x.addressOf(0, 10), -1);
        due.is("10: two errors", x.addressOf(3, 4), -1);
        due.is("11: interviewer -1", x.interviewerOf(-1, 0), -1);
        due.is("11: interviewer 2", x.interviewerOf(2, 0), -1);
        due.is("11: what -1", x.interviewerOf(0, -1), -1);
        due.is("11: what 6", x.interviewerOf(0, 6), -1);
        due.is("12: area -1", x.cellOf(-1, 0, 0), -1);
        due.is("12: area 4", x.cellOf(4, 0, 0), -1);
        due.is("12: group -1", x.cellOf(1, -1, 0), -1);
        due.is("12: group 3", x.cellOf(0, 3, 0), -1);
        due.is("12: what -1", x.cellOf(0, 0, -1), -1);
        due.is("12: what 5", x.cellOf(0, 0, 5), -1);
        due.is("12: two errors", x.cellOf(0, 3, 4), -1);
        due.is("13: what -1", x.addresses(-1), -1);
        due.is("13: what 8", x.addresses(8), -1);
        due.is("14: what -1", x.count(-1), -1);
        due.is("14: what 12", x.count(12), -1);
    }
}
