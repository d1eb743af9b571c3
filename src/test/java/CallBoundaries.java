/** The sentences of the promises 6 to 9: calls, appointments, days, settings. */
final class CallBoundaries {
    private CallBoundaries() {
    }

    static void tell(Sentences all) {
        tellOfCalls(all);
        tellOfAppointments(all);
        all.of("Promise 8", "days: 1 to 99", CallBoundaries::days);
        all.of("Promise 8", "Returns the day then", CallBoundaries::dayThen);
        all.of("Promise 8", "INVALID_ARGUMENT if days is out of range", CallBoundaries::wrongDays);
        all.of("Promise 8", "LIMIT_REACHED if it would be above 999", CallBoundaries::above999);
        all.of("Promise 9", "(addresses that are open stay so until the next call in vain)",
                CallBoundaries::openUntilTheNextCallInVain);
        all.of("Promise 9", "what: 0 or 1", CallBoundaries::whichSetting);
        all.of("Promise 9", "value: a value in its range", CallBoundaries::valueOfSetting);
        all.of("Promise 9", "Returns what it was", CallBoundaries::settingBefore);
        all.of("Promise 9", "INVALID_ARGUMENT if an argument is out of range",
                CallBoundaries::wrongSetting);
    }

    private static void tellOfCalls(Sentences all) {
        all.of("Promise 6", "interviewer: number of the interviewer", CallBoundaries::whoCalls);
        all.of("Promise 6", "address: number of the address", CallBoundaries::whereToCall);
        all.of("Promise 6", "time: 0 to 2", CallBoundaries::timeOfCall);
        all.of("Promise 6", "what: 0: nobody is there; 1: refused; 2 to 4: an interview of the"
                + " group 0 to 2", CallBoundaries::whatComesOfIt);
        all.of("Promise 6", "Returns the outcome of the address then, 0 if it is still open",
                CallBoundaries::outcomeThen);
        all.of("Promise 6", "INVALID_ARGUMENT if an argument is out of range",
                CallBoundaries::wrongCall);
        all.of("Promise 6", "NOT_POSSIBLE if the call is not possible",
                CallBoundaries::callNotPossible);
    }

    private static void tellOfAppointments(Sentences all) {
        all.of("Promise 7", "An interviewer calls at an address, and an appointment is made.",
                CallBoundaries::callsAndAppointment);
        all.of("Promise 7", "interviewer: number of the interviewer", CallBoundaries::whoAppoints);
        all.of("Promise 7", "address: number of the address", CallBoundaries::whereToAppoint);
        all.of("Promise 7", "time: 0 to 2", CallBoundaries::timeOfAppointingCall);
        all.of("Promise 7", "day: the day of the appointment, 0 to 999",
                CallBoundaries::dayOfAppointment);
        all.of("Promise 7", "then: its time, 0 to 2", CallBoundaries::timeOfAppointment);
        all.of("Promise 7", "Returns how many appointments there are then, of all open addresses",
                CallBoundaries::howManyAppointments);
        all.of("Promise 7", "INVALID_ARGUMENT if an argument is out of range",
                CallBoundaries::wrongAppointment);
        all.of("Promise 7", "NOT_POSSIBLE if the call is not possible",
                CallBoundaries::appointmentNotPossible);
        all.of("Promise 7", "or the day is not later than the present one",
                CallBoundaries::notLater);
    }

    // ---- call

    private static void whoCalls(Due due) {
        FieldQuotas x = Made.full();
        for (int who = 0; who < 5; who++) {
            due.is("a call of " + who, x.call(who, 10 + who, 0, 0), 0);
            due.is("the last caller", x.addressOf(10 + who, 9), who);
            for (int other = 0; other < 5; other++) {
                due.is("calls of " + other, x.interviewerOf(other, 2), other <= who ? 1 : 0);
            }
        }
        due.is("-1", x.call(-1, 0, 0, 0), -1);
        due.is("5", x.call(5, 0, 0, 0), -1);
    }

    private static void whereToCall(Due due) {
        FieldQuotas x = Made.full();
        for (int where = 0; where < 24; where++) {
            due.is("a call at " + where, x.call(where % 5, where, 0, 0), 0);
            due.is("not called at yet", x.addresses(7),
                    Made.ALL_ADDRESSES - ((1 << where + 1) - 1));
        }
        due.is("-1", x.call(0, -1, 0, 0), -1);
        due.is("24", x.call(0, 24, 0, 0), -1);
    }

    private static void timeOfCall(Due due) {
        FieldQuotas x = Made.houses(3);
        for (int time = 0; time <= 2; time++) {
            due.is("a call at the time " + time, x.call(0, time, time, 0), 0);
            due.is("its time", x.addressOf(time, 5), time);
        }
        due.is("-1", x.call(0, 0, -1, 0), -1);
        due.is("3", x.call(0, 0, 3, 0), -1);
    }

    private static void whatComesOfIt(Due due) {
        FieldQuotas x = Made.houses(6);
        int[] outcomes = {0, 2, 1, 1, 1};
        int[] groups = {-4, -4, 0, 1, 2};
        for (int what = 0; what <= 4; what++) {
            due.is("what " + what, x.call(0, what, 0, what), outcomes[what]);
            due.is("its group", x.addressOf(what, 8), groups[what]);
            due.is("in vain", x.addressOf(what, 3), what == 0 ? 1 : 0);
        }
        for (int group = 0; group <= 2; group++) {
            due.is("interviews of " + group, x.cellOf(0, group, 1), 1);
        }
        due.is("-1", x.call(0, 5, 0, -1), -1);
        due.is("5", x.call(0, 5, 0, 5), -1);
    }

    private static void outcomeThen(Due due) {
        FieldQuotas x = Made.houses(5);
        x.quota(0, 1, 0);
        x.set(0, 2);
        x.set(1, 0);
        due.is("still open", x.call(0, 0, 0, 0), 0);
        due.is("interviewed", x.call(0, 1, 0, 2), 1);
        due.is("refused", x.call(0, 2, 0, 1), 2);
        due.is("in vain", x.call(0, 3, 0, 0), 0);
        due.is("not reached", x.call(0, 3, 1, 0), 3);
        due.is("not wanted", x.call(0, 4, 0, 3), 4);
        for (int address = 0; address <= 4; address++) {
            due.is("it is the outcome", x.addressOf(address, 1), address);
        }
    }

    private static void wrongCall(Due due) {
        due.bounds("interviewer", 0, 1, Made::field, (x, n) -> x.call(n, 0, 0, 0));
        due.bounds("address", 0, 3, Made::field, (x, n) -> x.call(0, n, 0, 0));
        due.bounds("time", 0, 2, Made::field, (x, n) -> x.call(0, 0, n, 0));
        due.bounds("what", 0, 4, Made::field, (x, n) -> x.call(0, 0, 0, n));
        due.is("no interviewer", Made.housesIn().call(1, 0, 0, 0), -1);
        due.is("no address", Made.housesIn().call(0, 0, 0, 0), -1);
    }

    private static void callNotPossible(Due due) {
        for (int address = 1; address <= 4; address++) {
            int where = address;
            due.refuses("the address is not open", -2, Made::outcomes, x -> x.call(0, where, 1, 1));
        }
        due.refuses("at the same time", -2, () -> calledAt(1, 1), x -> x.call(1, 0, 2, 0));
        due.refuses("too early", -2, () -> calledAt(3, 2), x -> x.call(1, 0, 0, 0));
        due.refuses("ahead of the appointment's day", -2, () -> appointedFor(3, 2),
                x -> x.call(0, 0, 1, 2));
        due.refuses("at another time than the appointment's", -2, () -> appointedFor(3, 3),
                x -> x.call(0, 0, 2, 2));
        due.refuses("the load is reached", -2, CallBoundaries::loadIsReached,
                x -> x.call(0, 1, 0, 0));
        due.is("at another time", calledAt(1, 1).call(1, 0, 0, 0), 0);
        due.is("late enough", calledAt(3, 3).call(1, 0, 0, 0), 0);
        due.is("at the appointment", appointedFor(3, 3).call(0, 0, 1, 2), 1);
        due.is("when it is over", appointedFor(3, 4).call(0, 0, 2, 2), 1);
        due.is("another interviewer", loadIsReached().call(1, 1, 0, 0), 0);
    }

    /** Setting 1 is days, and a call was made so many days ago, in the evening. */
    private static FieldQuotas calledAt(int days, int ago) {
        FieldQuotas x = Made.field();
        x.set(1, days);
        x.call(0, 0, 2, 0);
        x.pass(ago);
        return x;
    }

    /** An appointment in the afternoon of a day, seen on another. */
    private static FieldQuotas appointedFor(int day, int today) {
        FieldQuotas x = Made.field();
        x.later(0, 0, 0, day, 1);
        x.pass(today);
        return x;
    }

    private static FieldQuotas loadIsReached() {
        FieldQuotas x = new FieldQuotas();
        x.interviewer(0, 1);
        x.interviewer(0, 1);
        x.address(0);
        x.address(0);
        x.call(0, 0, 0, 0);
        return x;
    }

    // ---- later

    private static void callsAndAppointment(Due due) {
        FieldQuotas x = Made.field();
        due.is("later", x.later(1, 3, 2, 999, 1), 1);
        int[] row = {3, 0, 1, 0, 0, 2, 999, 1, -4, 1};
        for (int what = 0; what < row.length; what++) {
            due.is("the address " + what, x.addressOf(3, what), row[what]);
        }
        int[] who = {1, 9, 1, 1, 0, 1};
        for (int what = 0; what < who.length; what++) {
            due.is("the interviewer " + what, x.interviewerOf(1, what), who[what]);
        }
        due.is("calls", x.count(3), 1);
        due.is("in vain", x.count(4), 0);
    }

    private static void whoAppoints(Due due) {
        FieldQuotas x = Made.full();
        for (int who = 0; who < 5; who++) {
            due.is("later of " + who, x.later(who, 10 + who, 0, 1, 0), who + 1);
            due.is("the last caller", x.addressOf(10 + who, 9), who);
            due.is("calls of " + who, x.interviewerOf(who, 2), 1);
        }
        due.is("-1", x.later(-1, 0, 0, 1, 0), -1);
        due.is("5", x.later(5, 0, 0, 1, 0), -1);
    }

    private static void whereToAppoint(Due due) {
        FieldQuotas x = Made.full();
        for (int where = 0; where < 24; where++) {
            due.is("later at " + where, x.later(where % 5, where, 0, 1, 0), where + 1);
            due.is("the appointments", x.addresses(5), (1 << where + 1) - 1);
        }
        due.is("-1", x.later(0, -1, 0, 1, 0), -1);
        due.is("24", x.later(0, 24, 0, 1, 0), -1);
    }

    private static void timeOfAppointingCall(Due due) {
        FieldQuotas x = Made.houses(3);
        for (int time = 0; time <= 2; time++) {
            due.is("later at the time " + time, x.later(0, time, time, 1, 2 - time), time + 1);
            due.is("the time of the call", x.addressOf(time, 5), time);
        }
        due.is("-1", x.later(0, 0, -1, 1, 0), -1);
        due.is("3", x.later(0, 0, 3, 1, 0), -1);
    }

    private static void dayOfAppointment(Due due) {
        FieldQuotas x = Made.field();
        due.is("1", x.later(0, 0, 0, 1, 0), 1);
        due.is("999", x.later(0, 1, 0, 999, 0), 2);
        due.is("its day", x.addressOf(1, 6), 999);
        due.is("0 is in the range, but not later", x.later(0, 2, 0, 0, 0), -2);
        due.is("-1", x.later(0, 2, 0, -1, 0), -1);
        due.is("1000", x.later(0, 2, 0, 1000, 0), -1);
        FieldQuotas y = Made.fieldOnDay(998);
        due.is("999 on the day 998", y.later(0, 0, 0, 999, 0), 1);
        y.pass(1);
        due.is("the appointment on the last day", y.call(0, 0, 0, 2), 1);
    }

    private static void timeOfAppointment(Due due) {
        FieldQuotas x = Made.field();
        for (int then = 0; then <= 2; then++) {
            due.is("the time " + then, x.later(0, then, 2 - then, 1, then), then + 1);
            due.is("it stands", x.addressOf(then, 7), then);
        }
        due.is("-1", x.later(0, 3, 0, 1, -1), -1);
        due.is("3", x.later(0, 3, 0, 1, 3), -1);
    }

    private static void howManyAppointments(Due due) {
        FieldQuotas x = Made.full();
        for (int i = 0; i < 24; i++) {
            due.is("there are then", x.later(i % 5, i, 0, 1 + i % 2, 0), i + 1);
        }
        x.pass(1);
        due.is("one in place of another", x.later(0, 0, 0, 9, 0), 24);
        x.call(0, 2, 0, 0);
        x.call(0, 4, 0, 1);
        due.is("two are gone", x.later(0, 6, 0, 9, 0), 22);
        x.pass(1);
        due.is("those that are over are counted", x.later(1, 1, 0, 9, 0), 22);
        x.call(1, 3, 0, 2);
        due.is("one was interviewed", x.later(1, 2, 1, 9, 0), 22);
        due.is("it is the count", x.count(7), 22);
    }

    private static void wrongAppointment(Due due) {
        due.bounds("interviewer", 0, 1, Made::field, (x, n) -> x.later(n, 0, 0, 1, 0));
        due.bounds("address", 0, 3, Made::field, (x, n) -> x.later(0, n, 0, 1, 0));
        due.bounds("time", 0, 2, Made::field, (x, n) -> x.later(0, 0, n, 1, 0));
        due.bounds("day", 0, 999, Made::field, (x, n) -> x.later(0, 0, 0, n, 0));
        due.bounds("then", 0, 2, Made::field, (x, n) -> x.later(0, 0, 0, 1, n));
    }

    private static void appointmentNotPossible(Due due) {
        for (int address = 1; address <= 4; address++) {
            int where = address;
            due.refuses("the address is not open", -2, Made::outcomes,
                    x -> x.later(0, where, 1, 9, 1));
        }
        due.refuses("at the same time", -2, () -> calledAt(1, 1), x -> x.later(1, 0, 2, 9, 0));
        due.refuses("too early", -2, () -> calledAt(3, 2), x -> x.later(1, 0, 0, 9, 0));
        due.refuses("ahead of the appointment's day", -2, () -> appointedFor(3, 2),
                x -> x.later(0, 0, 1, 9, 2));
        due.refuses("at another time than the appointment's", -2, () -> appointedFor(3, 3),
                x -> x.later(0, 0, 2, 9, 2));
        due.refuses("the load is reached", -2, CallBoundaries::loadIsReached,
                x -> x.later(0, 1, 0, 9, 0));
        due.is("at another time", calledAt(1, 1).later(1, 0, 0, 9, 0), 1);
        due.is("late enough", calledAt(3, 3).later(1, 0, 0, 9, 0), 1);
        due.is("at the appointment", appointedFor(3, 3).later(0, 0, 1, 9, 2), 1);
        due.is("when it is over", appointedFor(3, 4).later(0, 0, 2, 9, 2), 1);
        due.is("another interviewer", loadIsReached().later(1, 1, 0, 9, 0), 1);
    }

    private static void notLater(Due due) {
        for (int day : new int[] {0, 1, 500, 998}) {
            Due.State state = () -> Made.fieldOnDay(day);
            due.refuses("the present day", -2, state, x -> x.later(0, 0, 0, day, 2));
            due.refuses("the first day", -2, state, x -> x.later(0, 0, 0, 0, 2));
            due.is("the next day", state.make().later(0, 0, 2, day + 1, 0), 1);
        }
        due.refuses("the day ahead", -2, () -> Made.fieldOnDay(7), x -> x.later(0, 0, 0, 6, 2));
        due.refuses("on the last day", -2, () -> Made.fieldOnDay(999),
                x -> x.later(0, 0, 0, 999, 2));
        due.refuses("beyond it", -1, () -> Made.fieldOnDay(999), x -> x.later(0, 0, 0, 1000, 2));
    }

    // ---- pass

    private static void days(Due due) {
        for (int days = 1; days <= 99; days++) {
            FieldQuotas x = new FieldQuotas();
            due.is(days + " days", x.pass(days), days);
        }
        due.is("0 days", new FieldQuotas().pass(0), -1);
        due.is("100 days", new FieldQuotas().pass(100), -1);
    }

    private static void dayThen(Due due) {
        FieldQuotas x = Made.houses(1);
        x.call(0, 0, 0, 0);
        due.is("one day", x.pass(1), 1);
        due.is("no calls were made on it", x.interviewerOf(0, 2), 0);
        due.is("99 days more", x.pass(99), 100);
        due.is("the day", x.count(2), 100);
        x.undo();
        due.is("from a day that was undone", x.pass(2), 3);
    }

    private static void wrongDays(Due due) {
        due.bounds("days", 1, 99, Made::field, (x, n) -> x.pass(n));
        due.bounds("days on the last day", 1, 99, () -> Made.fieldOnDay(999), (x, n) -> x.pass(n));
    }

    private static void above999(Due due) {
        for (int days = 1; days <= 99; days++) {
            FieldQuotas x = new FieldQuotas();
            Made.passTo(x, 1000 - days);
            due.is("one day too many: " + days, x.pass(days), -3);
            due.is("the day stays", x.count(2), 1000 - days);
            FieldQuotas y = new FieldQuotas();
            Made.passTo(y, 999 - days);
            due.is("up to the last day: " + days, y.pass(days), 999);
        }
        due.refuses("on the last day", -3, () -> Made.fieldOnDay(999), x -> x.pass(1));
        due.refuses("on the last day", -3, () -> Made.fieldOnDay(999), x -> x.pass(99));
    }

    // ---- set

    private static void openUntilTheNextCallInVain(Due due) {
        for (int limit = 1; limit <= 3; limit++) {
            FieldQuotas x = Made.houses(2);
            x.set(1, 0);
            for (int time = 0; time <= 2; time++) {
                x.call(0, 0, time, 0);
            }
            due.is("lowered to " + limit, x.set(0, limit), 4);
            due.is("open still", x.addresses(0), 3);
            due.is("possible still", x.possible(0, 0), 3);
            x.pass(1);
            due.is("open on another day", x.addressOf(0, 1), 0);
            due.is("open by another call", x.later(0, 0, 0, 5, 0), 1);
            x.pass(5);
            due.is("not by the next call in vain", x.call(0, 0, 1, 0), 3);
        }
        FieldQuotas y = Made.houses(2);
        y.set(0, 1);
        y.call(0, 0, 0, 0);
        y.set(0, 9);
        due.is("raised: the outcome stays", y.addressOf(0, 1), 3);
        due.is("raised: the other one is open", y.call(0, 1, 0, 0), 0);
    }

    private static void whichSetting(Due due) {
        FieldQuotas x = new FieldQuotas();
        due.is("0", x.set(0, 7), 4);
        due.is("1", x.set(1, 6), 1);
        due.is("the setting 0", x.count(10), 7);
        due.is("the setting 1", x.count(11), 6);
        due.is("-1", x.set(-1, 1), -1);
        due.is("2", x.set(2, 1), -1);
    }

    private static void valueOfSetting(Due due) {
        FieldQuotas x = new FieldQuotas();
        for (int value = 1; value <= 9; value++) {
            due.is("setting 0", x.set(0, value), value == 1 ? 4 : value - 1);
            due.is("it stands", x.count(10), value);
        }
        for (int value = 0; value <= 9; value++) {
            due.is("setting 1", x.set(1, value), value == 0 ? 1 : value - 1);
            due.is("it stands", x.count(11), value);
        }
        due.is("setting 0 to 0, which is in the range of the other", x.set(0, 0), -1);
        due.is("setting 0 to 10", x.set(0, 10), -1);
        due.is("setting 1 to -1", x.set(1, -1), -1);
        due.is("setting 1 to 10", x.set(1, 10), -1);
    }

    private static void settingBefore(Due due) {
        FieldQuotas x = new FieldQuotas();
        due.is("the first", x.set(0, 9), 4);
        due.is("the most", x.set(0, 1), 9);
        due.is("the least", x.set(0, 1), 1);
        due.is("the same", x.set(0, 5), 1);
        due.is("the first of the other", x.set(1, 0), 1);
        due.is("the least of the other", x.set(1, 9), 0);
        x.undo();
        due.is("one that was undone", x.set(1, 3), 0);
        due.is("a wrong one", x.set(1, 10), -1);
        due.is("the one ahead of it", x.set(1, 4), 3);
    }

    private static void wrongSetting(Due due) {
        due.bounds("what", 0, 1, Made::field, (x, n) -> x.set(n, 1));
        due.bounds("value of 0", 1, 9, Made::field, (x, n) -> x.set(0, n));
        due.bounds("value of 1", 0, 9, Made::field, (x, n) -> x.set(1, n));
    }
}
