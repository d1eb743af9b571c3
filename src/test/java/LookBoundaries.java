/** The sentences of the promises 10 to 14: what there is. */
final class LookBoundaries {
    private LookBoundaries() {
    }

    static void tell(Sentences all) {
        tellOfAddressOf(all);
        tellOfInterviewerOf(all);
        tellOfCellOf(all);
        tellOfAddresses(all);
        tellOfCount(all);
    }

    private static void tellOfAddressOf(Sentences all) {
        all.of("Promise 10", "address: number of the address", LookBoundaries::whichAddress);
        all.of("Promise 10", "what: 0: its area", LookBoundaries::area);
        all.of("Promise 10", "1: its outcome, 0 if it is open", LookBoundaries::outcome);
        all.of("Promise 10", "2: calls made there so far; 3: those in vain",
                LookBoundaries::callsMadeThere);
        all.of("Promise 10", "4: the day of the latest call; 5: its time",
                LookBoundaries::latestCall);
        all.of("Promise 10", "6: the day of the appointment; 7: its time",
                LookBoundaries::appointment);
        all.of("Promise 10", "8: the group that was interviewed", LookBoundaries::group);
        all.of("Promise 10", "9: the interviewer who called last", LookBoundaries::caller);
        all.of("Promise 10", "INVALID_ARGUMENT if an argument is out of range",
                LookBoundaries::wrongAddressOf);
        all.of("Promise 10", "NOT_FOUND for 4 to 9 if there is no such thing",
                LookBoundaries::noSuchThing);
    }

    private static void tellOfInterviewerOf(Sentences all) {
        all.of("Promise 11", "interviewer: number of the interviewer",
                LookBoundaries::whichInterviewer);
        all.of("Promise 11", "what: 0: the area; 1: the load", LookBoundaries::areaAndLoad);
        all.of("Promise 11", "2: the calls today; 3: all calls so far", LookBoundaries::callsToday);
        all.of("Promise 11", "4: interviews so far", LookBoundaries::interviewsSoFar);
        all.of("Promise 11", "5: calls in other areas so far", LookBoundaries::callsInOtherAreas);
        all.of("Promise 11", "INVALID_ARGUMENT if an argument is out of range",
                LookBoundaries::wrongInterviewerOf);
    }

    private static void tellOfCellOf(Sentences all) {
        all.of("Promise 12", "area: 0 to 3", LookBoundaries::areaOfCell);
        all.of("Promise 12", "group: 0 to 2", LookBoundaries::groupOfCell);
        all.of("Promise 12", "what: 0: its quota; 1: its interviews",
                LookBoundaries::quotaAndInterviews);
        all.of("Promise 12", "2: interviews that are wanted still (at least 0)",
                LookBoundaries::wantedStill);
        all.of("Promise 12", "3: its population", LookBoundaries::population);
        all.of("Promise 12", "4: the bits of its weight", LookBoundaries::weight);
        all.of("Promise 12", "INVALID_ARGUMENT if an argument is out of range",
                LookBoundaries::wrongCellOf);
        all.of("Promise 12", "NOT_FOUND for 4 if it has no interviews",
                LookBoundaries::noInterviews);
    }

    private static void tellOfAddresses(Sentences all) {
        all.of("Promise 13", "what: 0: open ones; 1 to 4: those with this outcome",
                LookBoundaries::byOutcome);
        all.of("Promise 13", "5: open ones with appointments", LookBoundaries::withAppointments);
        all.of("Promise 13", "6: open ones whose appointment is over (its day is earlier than the"
                + " present one)", LookBoundaries::appointmentIsOver);
        all.of("Promise 13", "7: open ones at which nobody has called yet",
                LookBoundaries::nobodyHasCalled);
        all.of("Promise 13", "INVALID_ARGUMENT if what is out of range",
                LookBoundaries::wrongAddresses);
    }

    private static void tellOfCount(Sentences all) {
        all.of("Promise 14", "what: 0: addresses; 1: interviewers; 2: the day",
                LookBoundaries::countOfAll);
        all.of("Promise 14", "3: calls so far; 4: those in vain; 5: interviews",
                LookBoundaries::countOfCalls);
        all.of("Promise 14", "6: interviews that are wanted still, of all cells",
                LookBoundaries::countOfWanted);
        all.of("Promise 14", "7: appointments of open addresses",
                LookBoundaries::countOfAppointments);
        all.of("Promise 14", "8: states in the history", LookBoundaries::countOfStates);
        all.of("Promise 14", "9: the length of the text", LookBoundaries::countOfCharacters);
        all.of("Promise 14", "10, 11: the settings 0, 1", LookBoundaries::countOfSettings);
        all.of("Promise 14", "INVALID_ARGUMENT if what is out of range",
                LookBoundaries::wrongCount);
    }

    // ---- addressOf

    private static void whichAddress(Due due) {
        FieldQuotas x = Made.full();
        for (int address = 0; address < 24; address++) {
            x.later(address % 5, address, 0, 500 + address, 0);
        }
        for (int address = 0; address < 24; address++) {
            due.is("the address " + address, x.addressOf(address, 6), 500 + address);
        }
        due.is("-1", x.addressOf(-1, 6), -1);
        due.is("24", x.addressOf(24, 6), -1);
    }

    private static void area(Due due) {
        FieldQuotas x = Made.full();
        for (int address = 0; address < 24; address++) {
            due.is("the area of " + address, x.addressOf(address, 0), address % 4);
        }
        x.call(0, 3, 0, 1);
        due.is("of one with an outcome", x.addressOf(3, 0), 3);
    }

    private static void outcome(Due due) {
        FieldQuotas x = Made.outcomes();
        for (int address = 0; address <= 4; address++) {
            due.is("the outcome of " + address, x.addressOf(address, 1), address);
        }
        x.later(0, 0, 0, 1, 0);
        due.is("open with a call", x.addressOf(0, 1), 0);
        x.pass(50);
        due.is("open with an appointment that is over", x.addressOf(0, 1), 0);
    }

    private static void callsMadeThere(Due due) {
        FieldQuotas x = Made.houses(1);
        due.is("none", x.addressOf(0, 2), 0);
        due.is("none in vain", x.addressOf(0, 3), 0);
        x.set(0, 9);
        for (int call = 1; call <= 16; call++) {
            if (call % 2 == 0) {
                x.call(0, 0, 2, 0);
            } else {
                x.later(0, 0, 1, 1 + x.count(2), 2);
            }
            due.is("calls", x.addressOf(0, 2), call);
            due.is("in vain", x.addressOf(0, 3), call / 2);
            x.pass(1);
        }
        x.call(0, 0, 0, 0);
        due.is("the last in vain", x.addressOf(0, 1), 3);
        due.is("calls", x.addressOf(0, 2), 17);
        due.is("in vain", x.addressOf(0, 3), 9);
        FieldQuotas y = Made.houses(2);
        y.call(0, 0, 0, 1);
        y.call(0, 1, 0, 2);
        due.is("a refusal is a call", y.addressOf(0, 2) * 10 + y.addressOf(0, 3), 10);
        due.is("an interview is a call", y.addressOf(1, 2) * 10 + y.addressOf(1, 3), 10);
    }

    private static void latestCall(Due due) {
        FieldQuotas x = Made.houses(1);
        x.call(0, 0, 0, 0);
        due.is("the day 0", x.addressOf(0, 4), 0);
        due.is("the time 0", x.addressOf(0, 5), 0);
        x.pass(3);
        x.call(0, 0, 0, 0);
        due.is("a call that was not possible", x.addressOf(0, 4), 0);
        x.call(0, 0, 2, 0);
        due.is("the latest day", x.addressOf(0, 4), 3);
        due.is("the latest time", x.addressOf(0, 5), 2);
        Made.passTo(x, 999);
        x.call(0, 0, 1, 1);
        due.is("the last day", x.addressOf(0, 4), 999);
        due.is("its time", x.addressOf(0, 5), 1);
    }

    private static void appointment(Due due) {
        FieldQuotas x = Made.houses(1);
        due.is("none", x.addressOf(0, 6), -4);
        x.later(0, 0, 2, 1, 0);
        due.is("the day", x.addressOf(0, 6), 1);
        due.is("the time", x.addressOf(0, 7), 0);
        x.pass(50);
        due.is("the day when it is over", x.addressOf(0, 6), 1);
        x.later(0, 0, 1, 999, 2);
        due.is("the last day", x.addressOf(0, 6), 999);
        due.is("the time", x.addressOf(0, 7), 2);
    }

    private static void group(Due due) {
        for (int group = 0; group <= 2; group++) {
            FieldQuotas x = Made.houses(2);
            x.quota(0, group, 1);
            x.call(0, 0, 0, 2 + group);
            due.is("interviewed", x.addressOf(0, 8), group);
            x.call(0, 1, 0, 2 + group);
            due.is("not wanted", x.addressOf(1, 8), -4);
            x.quota(0, group, 0);
            due.is("it stays with a lower quota", x.addressOf(0, 8), group);
        }
    }

    private static void caller(Due due) {
        FieldQuotas x = Made.field();
        x.call(0, 3, 0, 0);
        due.is("the interviewer 0", x.addressOf(3, 9), 0);
        x.pass(1);
        x.later(1, 3, 1, 2, 0);
        due.is("the interviewer 1", x.addressOf(3, 9), 1);
        x.call(0, 3, 0, 0);
        due.is("not one whose call was not possible", x.addressOf(3, 9), 1);
        x.pass(1);
        x.call(0, 3, 0, 1);
        due.is("of one with an outcome", x.addressOf(3, 9), 0);
    }

    private static void wrongAddressOf(Due due) {
        for (int what = 0; what <= 9; what++) {
            int thing = what;
            due.bounds("address", 0, 3, Made::field, (x, n) -> x.addressOf(n, thing));
        }
        due.bounds("what", 0, 9, Made::field, (x, n) -> x.addressOf(0, n));
        due.is("no address", Made.houses(0).addressOf(0, 0), -1);
    }

    private static void noSuchThing(Due due) {
        FieldQuotas x = Made.outcomes();
        int[][] missing = {{4, 5, 6, 7, 8, 9}, {6, 7}, {6, 7, 8}, {6, 7, 8}, {6, 7, 8}};
        for (int address = 0; address <= 4; address++) {
            int at = 0;
            for (int what = 0; what <= 9; what++) {
                boolean none = at < missing[address].length && missing[address][at] == what;
                at += none ? 1 : 0;
                int answer = x.addressOf(address, what);
                due.holds("address " + address + ", what " + what, none ? answer == -4
                        : answer >= 0);
            }
        }
        FieldQuotas y = Made.houses(1);
        y.call(0, 0, 0, 0);
        y.undo();
        due.is("a call that was undone", y.addressOf(0, 9), -4);
        y.later(0, 0, 0, 1, 0);
        y.undo();
        due.is("an appointment that was undone", y.addressOf(0, 7), -4);
    }

    // ---- interviewerOf

    private static void whichInterviewer(Due due) {
        FieldQuotas x = Made.full();
        for (int address = 0; address < 15; address++) {
            int who = address < 5 ? 4 : address < 9 ? 3 : address < 12 ? 2 : address < 14 ? 1 : 0;
            x.call(who, address, 0, 1);
        }
        for (int who = 0; who < 5; who++) {
            due.is("calls of " + who, x.interviewerOf(who, 3), who + 1);
        }
        due.is("-1", x.interviewerOf(-1, 3), -1);
        due.is("5", x.interviewerOf(5, 3), -1);
    }

    private static void areaAndLoad(Due due) {
        FieldQuotas x = new FieldQuotas();
        for (int i = 0; i < 5; i++) {
            x.interviewer(3 - i % 4, 9 - 2 * i);
        }
        for (int i = 0; i < 5; i++) {
            due.is("the area of " + i, x.interviewerOf(i, 0), 3 - i % 4);
            due.is("the load of " + i, x.interviewerOf(i, 1), 9 - 2 * i);
        }
    }

    private static void callsToday(Due due) {
        FieldQuotas x = Made.full();
        int all = 0;
        for (int day = 0; day < 2; day++) {
            due.is("none today", x.interviewerOf(0, 2), 0);
            due.is("so far", x.interviewerOf(0, 3), all);
            for (int call = 1; call <= 9; call++) {
                x.call(0, 9 * day + call, 0, 1);
                all++;
                due.is("today", x.interviewerOf(0, 2), call);
                due.is("so far", x.interviewerOf(0, 3), all);
            }
            due.is("one that is not possible", x.call(0, 0, 0, 0), -2);
            due.is("is none", x.interviewerOf(0, 3), all);
            x.pass(1);
        }
        due.is("on a new day", x.interviewerOf(0, 2), 0);
        due.is("of another interviewer", x.interviewerOf(1, 3), 0);
        x.undo();
        due.is("a new day that was undone", x.interviewerOf(0, 2), 9);
        due.is("all calls", x.interviewerOf(0, 3), 18);
    }

    private static void interviewsSoFar(Due due) {
        FieldQuotas x = Made.outcomes();
        due.is("not wanted, refused, not reached are none", x.interviewerOf(0, 4), 1);
        x.pass(1);
        due.is("on another day", x.interviewerOf(0, 4), 1);
        x.call(0, 0, 0, 4);
        due.is("one more", x.interviewerOf(0, 4), 2);
        x.quota(0, 2, 0);
        due.is("a lower quota", x.interviewerOf(0, 4), 2);
        FieldQuotas y = Made.field();
        y.call(0, 0, 0, 0);
        y.pass(1);
        y.call(1, 0, 1, 2);
        due.is("not of one who called ahead", y.interviewerOf(0, 4), 0);
        due.is("of the one who called last", y.interviewerOf(1, 4), 1);
    }

    private static void callsInOtherAreas(Due due) {
        for (int own = 0; own <= 3; own++) {
            FieldQuotas x = new FieldQuotas();
            x.interviewer(own, 9);
            for (int area = 0; area <= 3; area++) {
                x.address(area);
                int before = x.interviewerOf(0, 5);
                x.call(0, area, 0, area % 3);
                due.is("own " + own + ", in " + area, x.interviewerOf(0, 5) - before,
                        area == own ? 0 : 1);
            }
            x.pass(1);
            due.is("so far, not today", x.interviewerOf(0, 5), 3);
        }
    }

    private static void wrongInterviewerOf(Due due) {
        for (int what = 0; what <= 5; what++) {
            int thing = what;
            due.bounds("interviewer", 0, 1, Made::field, (x, n) -> x.interviewerOf(n, thing));
        }
        due.bounds("what", 0, 5, Made::field, (x, n) -> x.interviewerOf(0, n));
        due.is("no interviewer", new FieldQuotas().interviewerOf(0, 0), -1);
    }

    // ---- cellOf

    private static void areaOfCell(Due due) {
        FieldQuotas x = new FieldQuotas();
        for (int area = 0; area <= 3; area++) {
            x.quota(area, 1, 10 + area);
        }
        for (int area = 0; area <= 3; area++) {
            due.is("the area " + area, x.cellOf(area, 1, 0), 10 + area);
        }
        due.is("-1", x.cellOf(-1, 1, 0), -1);
        due.is("4", x.cellOf(4, 1, 0), -1);
    }

    private static void groupOfCell(Due due) {
        FieldQuotas x = new FieldQuotas();
        for (int group = 0; group <= 2; group++) {
            x.quota(2, group, 10 + group);
        }
        for (int group = 0; group <= 2; group++) {
            due.is("the group " + group, x.cellOf(2, group, 0), 10 + group);
        }
        due.is("-1", x.cellOf(2, -1, 0), -1);
        due.is("3", x.cellOf(2, 3, 0), -1);
    }

    private static void quotaAndInterviews(Due due) {
        FieldQuotas x = Made.full();
        for (int cell = 0; cell < 12; cell++) {
            int address = cell / 3 + 4 * (cell % 3);
            due.is("no interview", x.cellOf(cell / 3, cell % 3, 1), 0);
            x.call(cell % 5, address, 0, 2 + cell % 3);
            due.is("one", x.cellOf(cell / 3, cell % 3, 1), 1);
            due.is("the quota stays", x.cellOf(cell / 3, cell % 3, 0), 2);
            due.is("all interviews", x.count(5), cell + 1);
        }
    }

    private static void wantedStill(Due due) {
        FieldQuotas x = Made.houses(4);
        due.is("at first", x.cellOf(0, 0, 2), 2);
        x.call(0, 0, 0, 2);
        due.is("one is left", x.cellOf(0, 0, 2), 1);
        x.call(0, 1, 0, 2);
        due.is("none is left", x.cellOf(0, 0, 2), 0);
        x.call(0, 2, 0, 2);
        due.is("one that is not wanted", x.cellOf(0, 0, 2), 0);
        for (int quota = 0; quota <= 20; quota++) {
            x.quota(0, 0, quota);
            due.is("of a quota of " + quota, x.cellOf(0, 0, 2), Math.max(0, quota - 2));
        }
    }

    private static void population(Due due) {
        FieldQuotas x = Made.houses(1);
        for (int people : new int[] {0, 1, 9998, 9999}) {
            x.population(3, 2, people);
            due.is("people", x.cellOf(3, 2, 3), people);
            due.is("of another cell", x.cellOf(3, 1, 3), 100);
        }
    }

    private static void weight(Due due) {
        FieldQuotas x = Made.full();
        x.quota(1, 1, 20);
        int[] numbers = {0, 1, 2, 3, 31, 63, 64, 100, 4095, 4096, 8191, 8192, 9998, 9999};
        for (int many = 1; many <= 6; many++) {
            x.call(many % 5, 4 * many - 3, 0, 3);
            for (int people : numbers) {
                x.population(1, 1, people);
                due.is(people + " by " + many, x.cellOf(1, 1, 4),
                        Float.floatToIntBits((float) people / (float) many));
            }
        }
        due.is("interviews", x.cellOf(1, 1, 1), 6);
    }

    private static void wrongCellOf(Due due) {
        for (int what = 0; what <= 4; what++) {
            int thing = what;
            due.bounds("area", 0, 3, Made::outcomes, (x, n) -> x.cellOf(n, 1, thing));
            due.bounds("group", 0, 2, Made::outcomes, (x, n) -> x.cellOf(0, n, thing));
            due.bounds("group", 0, 2, Made::outcomes, (x, n) -> x.cellOf(2, n, thing));
        }
        due.bounds("what", 0, 4, Made::outcomes, (x, n) -> x.cellOf(0, 0, n));
    }

    private static void noInterviews(Due due) {
        FieldQuotas x = Made.houses(3);
        x.quota(0, 2, 0);
        due.is("no call", x.cellOf(0, 0, 4), -4);
        x.call(0, 0, 0, 1);
        due.is("a refusal", x.cellOf(0, 0, 4), -4);
        x.call(0, 1, 0, 4);
        due.is("one that is not wanted", x.cellOf(0, 2, 4), -4);
        x.population(0, 0, 0);
        due.is("no people", x.cellOf(0, 0, 4), -4);
        x.call(0, 2, 0, 2);
        due.is("no people, but an interview", x.cellOf(0, 0, 4), 0);
        x.undo();
        due.is("an interview that was undone", x.cellOf(0, 0, 4), -4);
    }

    // ---- addresses

    private static void byOutcome(Due due) {
        FieldQuotas x = Made.outcomes();
        for (int outcome = 0; outcome <= 4; outcome++) {
            due.is("the outcome " + outcome, x.addresses(outcome), 1 << outcome);
        }
        FieldQuotas y = Made.full();
        due.is("all are open", y.addresses(0), Made.ALL_ADDRESSES);
        for (int i = 0; i < 24; i++) {
            y.call(i % 5, i, 0, 1);
        }
        due.is("all are refused", y.addresses(2), Made.ALL_ADDRESSES);
        due.is("none is open", y.addresses(0), 0);
    }

    private static void withAppointments(Due due) {
        FieldQuotas x = Made.houses(3);
        due.is("none", x.addresses(5), 0);
        x.later(0, 0, 0, 2, 0);
        x.later(0, 2, 0, 2, 1);
        due.is("two", x.addresses(5), 5);
        x.pass(2);
        due.is("on their day", x.addresses(5), 5);
        x.pass(1);
        due.is("when it is over", x.addresses(5), 5);
        x.call(0, 0, 0, 1);
        due.is("not with an outcome", x.addresses(5), 4);
        x.call(0, 2, 0, 0);
        due.is("not after a call", x.addresses(5), 0);
    }

    private static void appointmentIsOver(Due due) {
        FieldQuotas x = Made.houses(3);
        x.later(0, 0, 0, 2, 2);
        x.later(0, 1, 0, 3, 0);
        due.is("ahead of the day", x.addresses(6), 0);
        x.pass(2);
        due.is("on the day", x.addresses(6), 0);
        x.pass(1);
        due.is("a day later", x.addresses(6), 1);
        x.pass(1);
        due.is("both", x.addresses(6), 3);
        x.call(0, 1, 1, 2);
        due.is("not with an outcome", x.addresses(6), 1);
        x.later(0, 0, 1, 5, 0);
        due.is("not with a new one", x.addresses(6), 0);
    }

    private static void nobodyHasCalled(Due due) {
        FieldQuotas x = Made.houses(4);
        due.is("at none", x.addresses(7), 15);
        x.call(0, 0, 0, 0);
        due.is("nobody was there, but a call was made", x.addresses(7), 14);
        x.later(0, 1, 0, 1, 0);
        due.is("an appointment", x.addresses(7), 12);
        x.call(0, 3, 0, 1);
        due.is("an outcome", x.addresses(7), 4);
        x.pass(9);
        due.is("for ever", x.addresses(7), 4);
        x.undo();
        x.undo();
        due.is("a call that was undone", x.addresses(7), 12);
    }

    private static void wrongAddresses(Due due) {
        due.bounds("what", 0, 7, Made::outcomes, (x, n) -> x.addresses(n));
    }

    // ---- count

    private static void countOfAll(Due due) {
        FieldQuotas x = Made.full();
        due.is("addresses", x.count(0), 24);
        due.is("interviewers", x.count(1), 5);
        due.is("the day", x.count(2), 0);
        Made.passTo(x, 999);
        x.call(0, 0, 0, 1);
        due.is("addresses with an outcome too", x.count(0), 24);
        due.is("the last day", x.count(2), 999);
    }

    private static void countOfCalls(Due due) {
        FieldQuotas x = Made.full();
        x.quota(0, 0, 0);
        x.call(0, 0, 0, 0);
        x.call(1, 1, 0, 1);
        x.call(2, 2, 0, 2);
        x.call(3, 4, 0, 2);
        x.later(4, 3, 0, 1, 0);
        due.is("calls", x.count(3), 5);
        due.is("in vain", x.count(4), 1);
        due.is("interviews, without one that is not wanted", x.count(5), 1);
        x.pass(1);
        x.set(0, 1);
        x.call(0, 0, 1, 0);
        due.is("calls of other days too", x.count(3), 6);
        due.is("those of one that is not reached too", x.count(4), 2);
        due.is("one that is not possible", x.call(0, 0, 2, 0), -2);
        due.is("is none", x.count(3), 6);
    }

    private static void countOfWanted(Due due) {
        FieldQuotas x = Made.houses(3);
        due.is("12 cells, 2 each", x.count(6), 24);
        x.call(0, 0, 0, 2);
        x.call(0, 1, 0, 2);
        due.is("two were made", x.count(6), 22);
        x.quota(0, 0, 0);
        due.is("a cell below its interviews wants none, not fewer", x.count(6), 22);
        x.quota(3, 2, 20);
        due.is("18 more", x.count(6), 40);
        for (int area = 0; area < 4; area++) {
            Made.fillQuotas(x, area);
        }
        due.is("none at all", x.count(6), 0);
    }

    private static void countOfAppointments(Due due) {
        FieldQuotas x = Made.full();
        due.is("none", x.count(7), 0);
        for (int i = 0; i < 24; i++) {
            x.later(i % 5, i, 0, 1, 0);
        }
        due.is("all", x.count(7), 24);
        x.pass(5);
        due.is("when they are over", x.count(7), 24);
        x.call(0, 0, 0, 1);
        x.call(0, 1, 0, 0);
        due.is("two are gone", x.count(7), 22);
    }

    private static void countOfStates(Due due) {
        FieldQuotas x = new FieldQuotas();
        for (int i = 0; i <= 6; i++) {
            due.is("states", x.count(8), Math.min(i, 4));
            x.quota(0, 0, i);
        }
        x.undo();
        due.is("one less", x.count(8), 3);
    }

    private static void countOfCharacters(Due due) {
        FieldQuotas x = new FieldQuotas();
        for (int i = 0; i <= 82; i++) {
            due.is("characters", x.count(9), Math.min(i, 80));
            x.type(126);
        }
        x.clearText();
        due.is("none", x.count(9), 0);
    }

    private static void countOfSettings(Due due) {
        FieldQuotas x = new FieldQuotas();
        due.is("setting 0 at first", x.count(10), 4);
        due.is("setting 1 at first", x.count(11), 1);
        x.set(0, 9);
        x.set(1, 0);
        due.is("setting 0", x.count(10), 9);
        due.is("setting 1", x.count(11), 0);
    }

    private static void wrongCount(Due due) {
        due.bounds("what", 0, 11, Made::outcomes, (x, n) -> x.count(n));
    }
}
