/** Promises 6 and 7: calls, with all that makes them possible, and appointments. */
public final class CallTest {
    private static final Due due = new Due();

    public static void main(String[] args) {
        outcomes();
        fullQuota();
        loads();
        callBacks();
        daysBetween();
        appointments();
        appointmentsGo();
        travels();
        wrongCalls();
        wrongAppointments();
        due.finish();
    }

    /** Two interviewers with much load, and an address in each area. */
    private static FieldQuotas start() {
        FieldQuotas x = new FieldQuotas();
        x.interviewer(0, 9);
        x.interviewer(1, 9);
        for (int area = 0; area < 4; area++) {
            x.address(area);
        }
        return x;
    }

    private static void outcomes() {
        FieldQuotas x = start();
        due.is("6: nobody", x.call(0, 0, 2, 0), 0);
        due.is("6: refused", x.call(0, 1, 2, 1), 2);
        due.is("6: interview of the group 0", x.call(1, 2, 2, 2), 1);
        due.is("6: interview of the group 2", x.call(1, 3, 0, 4), 1);
        due.is("6: in vain", x.addressOf(0, 3), 1);
        due.is("6: a refusal is not in vain", x.addressOf(1, 3), 0);
        due.is("6: an interview is not in vain", x.addressOf(2, 3), 0);
        due.is("6: calls", x.addressOf(3, 2), 1);
        due.is("6: the group", x.addressOf(3, 8), 2);
        due.is("6: the cell", x.cellOf(3, 2, 1), 1);
        due.is("6: the cell", x.cellOf(2, 0, 1), 1);
        due.is("6: interviews", x.interviewerOf(1, 4), 2);
        due.is("6: none", x.interviewerOf(0, 4), 0);
        due.is("6: an address with an outcome", x.call(0, 1, 0, 0), -2);
        x.pass(5);
        due.is("6: later too", x.call(0, 1, 0, 0), -2);
        due.is("6: four in vain", x.call(0, 0, 0, 0), 0);
        x.pass(1);
        due.is("6: four in vain", x.call(0, 0, 1, 0), 0);
        x.pass(1);
        due.is("6: four in vain", x.call(1, 0, 0, 0), 3);
        due.is("6: not reached", x.addresses(3), 1);
    }

    private static void fullQuota() {
        FieldQuotas x = new FieldQuotas();
        x.interviewer(2, 9);
        for (int i = 0; i < 5; i++) {
            x.address(2);
        }
        x.address(1);
        due.is("6: first of two", x.call(0, 0, 0, 3), 1);
        due.is("6: second of two", x.call(0, 1, 0, 3), 1);
        due.is("6: the quota is full", x.call(0, 2, 0, 3), 4);
        due.is("6: the interviews", x.cellOf(2, 1, 1), 2);
        due.is("6: no group of it", x.addressOf(2, 8), -4);
        due.is("6: no interview of it", x.interviewerOf(0, 4), 2);
        due.is("6: but a call", x.interviewerOf(0, 3), 3);
        due.is("6: another group", x.call(0, 3, 0, 2), 1);
        due.is("6: another area", x.call(0, 5, 0, 3), 1);
        x.quota(2, 1, 1);
        due.is("6: the quota is below", x.call(0, 4, 0, 3), 4);
        due.is("6: not wanted", x.addresses(4), 20);
    }

    private static void loads() {
        FieldQuotas x = new FieldQuotas();
        x.interviewer(0, 2);
        x.interviewer(0, 1);
        for (int i = 0; i < 5; i++) {
            x.address(0);
        }
        due.is("6: first", x.call(0, 0, 0, 0), 0);
        due.is("6: second", x.later(0, 1, 0, 4, 0), 1);
        due.is("6: the load is reached", x.call(0, 2, 0, 0), -2);
        due.is("7: the load is reached", x.later(0, 2, 0, 4, 0), -2);
        due.is("6: another interviewer", x.call(1, 2, 0, 1), 2);
        due.is("6: its load is reached", x.call(1, 3, 0, 1), -2);
        x.pass(1);
        due.is("6: on a new day", x.call(1, 3, 0, 1), 2);
    }

    private static void callBacks() {
        FieldQuotas x = start();
        x.call(0, 0, 1, 0);
        due.is("6: on the same day", x.call(0, 0, 2, 0), -2);
        x.pass(1);
        due.is("6: at the same time", x.call(0, 0, 1, 0), -2);
        due.is("6: of another interviewer too", x.call(1, 0, 1, 0), -2);
        due.is("6: at another time", x.call(1, 0, 0, 0), 0);
        x.pass(1);
        due.is("6: the latest call alone counts", x.call(0, 0, 1, 0), 0);
        x.pass(50);
        due.is("6: the time counts long after", x.call(0, 0, 1, 0), -2);
    }

    private static void daysBetween() {
        FieldQuotas x = start();
        x.set(1, 3);
        x.set(0, 9);
        x.call(0, 0, 0, 0);
        x.pass(2);
        due.is("6: two days ago", x.call(0, 0, 1, 0), -2);
        x.pass(1);
        due.is("6: three days ago", x.call(0, 0, 1, 0), 0);
        x.set(1, 0);
        due.is("6: today at the same time", x.call(0, 0, 1, 0), -2);
        due.is("6: today at another time", x.call(0, 0, 0, 0), 0);
        x.pass(4);
        x.set(1, 9);
        x.call(0, 1, 0, 0);
        x.pass(8);
        due.is("6: eight days ago", x.call(0, 1, 1, 0), -2);
        due.is("7: eight days ago", x.later(0, 1, 1, 99, 0), -2);
        x.pass(1);
        due.is("6: nine days ago", x.call(0, 1, 1, 0), 0);
    }

    private static void appointments() {
        FieldQuotas x = start();
        due.is("7: one", x.later(0, 0, 0, 2, 1), 1);
        due.is("7: two", x.later(1, 1, 0, 999, 2), 2);
        due.is("7: its day", x.addressOf(0, 6), 2);
        due.is("7: its time", x.addressOf(0, 7), 1);
        due.is("7: a call was made", x.addressOf(0, 2), 1);
        due.is("7: its day and time", x.addressOf(0, 4) * 10 + x.addressOf(0, 5), 0);
        due.is("7: not in vain", x.addressOf(0, 3), 0);
        due.is("7: the caller", x.addressOf(1, 9), 1);
        due.is("7: the calls", x.interviewerOf(0, 2) * 10 + x.interviewerOf(0, 3), 11);
        x.pass(1);
        due.is("6: ahead of its day", x.call(0, 0, 1, 0), -2);
        x.pass(1);
        due.is("6: on its day at another time", x.call(0, 0, 2, 0), -2);
        due.is("7: on its day at another time", x.later(0, 0, 0, 3, 0), -2);
        due.is("7: a new one in place of it", x.later(0, 0, 1, 5, 1), 2);
        due.is("7: the new day", x.addressOf(0, 6), 5);
        x.pass(4);
        due.is("6: over, at the time of the latest call", x.call(0, 0, 1, 0), 0);
    }

    private static void appointmentsGo() {
        FieldQuotas x = start();
        for (int address = 0; address < 4; address++) {
            x.later(0, address, 0, 1, 0);
        }
        due.is("7: four", x.count(7), 4);
        x.pass(1);
        due.is("6: at the time of the latest call", x.call(0, 0, 0, 0), 0);
        due.is("6: the appointment is gone", x.addressOf(0, 6), -4);
        due.is("6: its time too", x.addressOf(0, 7), -4);
        x.pass(1);
        due.is("6: the time must change now", x.call(0, 0, 0, 0), -2);
        x.call(0, 1, 0, 1);
        due.is("6: refused", x.addressOf(1, 6), -4);
        x.call(0, 2, 0, 2);
        due.is("6: interviewed", x.addressOf(2, 7), -4);
        due.is("7: one is left", x.count(7), 1);
        due.is("7: one is left", x.later(1, 3, 2, 9, 0), 1);
    }

    private static void travels() {
        FieldQuotas x = start();
        x.call(0, 0, 0, 0);
        due.is("6: the own area", x.interviewerOf(0, 5), 0);
        x.call(0, 1, 0, 0);
        x.later(0, 2, 0, 3, 0);
        due.is("6: other areas", x.interviewerOf(0, 5), 2);
        x.call(1, 3, 0, 1);
        x.pass(1);
        x.call(1, 1, 1, 2);
        due.is("6: of the interviewer who calls", x.interviewerOf(1, 5), 1);
    }

    private static void wrongCalls() {
        due.refuses("6: interviewer -1", -1, CallTest::start, x -> x.call(-1, 0, 0, 0));
        due.refuses("6: interviewer 2", -1, CallTest::start, x -> x.call(2, 0, 0, 0));
        due.refuses("6: address -1", -1, CallTest::start, x -> x.call(0, -1, 0, 0));
        due.refuses("6: address 4", -1, CallTest::start, x -> x.call(0, 4, 0, 0));
        due.refuses("6: time -1", -1, CallTest::start, x -> x.call(0, 0, -1, 0));
        due.refuses("6: time 3", -1, CallTest::start, x -> x.call(0, 0, 3, 0));
        due.refuses("6: what -1", -1, CallTest::start, x -> x.call(0, 0, 0, -1));
        due.refuses("6: what 5", -1, CallTest::start, x -> x.call(0, 0, 0, 5));
        due.refuses("6: not possible", -2, CallTest::afterCalls, x -> x.call(0, 0, 1, 0));
        due.refuses("6: not open", -2, CallTest::afterCalls, x -> x.call(0, 1, 1, 3));
        due.refuses("6: an appointment", -2, CallTest::afterCalls, x -> x.call(0, 2, 1, 1));
        due.refuses("6: two errors", -1, CallTest::afterCalls, x -> x.call(0, 0, 1, 5));
        due.refuses("6: two errors", -1, CallTest::afterCalls, x -> x.call(2, 1, 1, 0));
        due.refuses("6: two errors", -1, CallTest::afterCalls, x -> x.call(0, 1, 3, 0));
    }

    private static FieldQuotas afterCalls() {
        FieldQuotas x = start();
        x.call(0, 0, 0, 0);
        x.call(1, 1, 0, 1);
        x.later(0, 2, 0, 5, 1);
        return x;
    }

    private static void wrongAppointments() {
        due.refuses("7: interviewer -1", -1, CallTest::start, x -> x.later(-1, 0, 0, 1, 0));
        due.refuses("7: interviewer 2", -1, CallTest::start, x -> x.later(2, 0, 0, 1, 0));
        due.refuses("7: address -1", -1, CallTest::start, x -> x.later(0, -1, 0, 1, 0));
        due.refuses("7: address 4", -1, CallTest::start, x -> x.later(0, 4, 0, 1, 0));
        due.refuses("7: time -1", -1, CallTest::start, x -> x.later(0, 0, -1, 1, 0));
        due.refuses("7: time 3", -1, CallTest::start, x -> x.later(0, 0, 3, 1, 0));
        due.refuses("7: day -1", -1, CallTest::start, x -> x.later(0, 0, 0, -1, 0));
        due.refuses("7: day 1000", -1, CallTest::start, x -> x.later(0, 0, 0, 1000, 0));
        due.refuses("7: then -1", -1, CallTest::start, x -> x.later(0, 0, 0, 1, -1));
        due.refuses("7: then 3", -1, CallTest::start, x -> x.later(0, 0, 0, 1, 3));
        due.refuses("7: today", -2, CallTest::start, x -> x.later(0, 0, 0, 0, 2));
        due.refuses("7: not possible", -2, CallTest::afterCalls, x -> x.later(0, 0, 1, 1, 0));
        due.refuses("7: not open", -2, CallTest::afterCalls, x -> x.later(0, 1, 1, 1, 0));
        due.refuses("7: two errors", -1, CallTest::afterCalls, x -> x.later(0, 0, 1, 1, 3));
        due.refuses("7: two errors", -1, CallTest::afterCalls, x -> x.later(0, 4, 1, 0, 0));
        FieldQuotas x = start();
        x.pass(7);
        due.is("7: the present day", x.later(0, 0, 0, 7, 2), -2);
        due.is("7: a day that is over", x.later(0, 0, 0, 6, 2), -2);
        due.is("7: the next day", x.later(0, 0, 0, 8, 0), 1);
        due.is("7: the last day", x.later(0, 1, 0, 999, 0), 2);
    }
}
