/** The sentences of "What it is" and of "Terms", up to the settings. */
final class TermBoundaries {
    private TermBoundaries() {
    }

    static void tell(Sentences all) {
        all.of("What it is", "An object is used for at most 512 calls after it has been made",
                TermBoundaries::the512thCall);
        all.of("Terms", "Sets of addresses are told as bits: bit k is for the address k",
                TermBoundaries::bits);
        all.of("Terms", "Time is told in days, the day 0 at first", TermBoundaries::firstDay);
        all.of("Terms", "a day has the times 0 (morning), 1 (afternoon) and 2 (evening)",
                TermBoundaries::times);
        all.of("Terms", "Areas, cells, quotas There are the areas 0 to 3 and the groups 0 to 2 of"
                + " people.", TermBoundaries::areasAndGroups);
        all.of("Terms", "it has a quota (0 to 20; 2 at first)", TermBoundaries::quotas);
        all.of("Terms", "and a population (0 to 9999; 100 at first)", TermBoundaries::populations);
        tellOfAddresses(all);
        tellOfCalls(all);
        tellOfTheNextCall(all);
        all.of("Weights", "The weight of a cell with interviews is its population, as a float,"
                + " divided by its interviews, as a float.", TermBoundaries::weights);
        all.of("Settings", "The settings are (in parentheses: range; first value): 0 calls in vain"
                + " until it is not reached (1 to 9; 4)", TermBoundaries::settingOfCallsInVain);
        all.of("Settings", "1 days between calls (0 to 9; 1)", TermBoundaries::settingOfDays);
    }

    private static void tellOfAddresses(Sentences all) {
        all.of("Addresses", "There are at most 24 addresses, numbered from 0, each in an area.",
                TermBoundaries::atMost24);
        all.of("Addresses", "An address is open at first.", TermBoundaries::openAtFirst);
        all.of("Addresses", "It gets an outcome at some time, once", TermBoundaries::once);
        all.of("Addresses", "1 interviewed (with a group), 2 refused, 3 not reached, 4 not wanted",
                TermBoundaries::outcomes);
        all.of("Addresses", "An open address has the calls made there so far, and perhaps an"
                + " appointment: a day and a time.", TermBoundaries::perhapsAnAppointment);
        all.of("Addresses", "An address is not reached when setting 0 calls have been made there"
                + " in vain (nobody was there).", TermBoundaries::notReached);
        all.of("Addresses", "It is not wanted when an interview could be made there, but the"
                + " quota of the cell of its area and the group is full.",
                TermBoundaries::notWanted);
    }

    private static void tellOfCalls(Sentences all) {
        String part = "Interviewers and calls";
        all.of(part, "There are at most 5 interviewers, numbered from 0, each with an area and a"
                + " load (1 to 9 calls a day).", TermBoundaries::atMost5);
        all.of(part, "is possible if the address is open", TermBoundaries::possibleIfOpen);
        all.of(part, "the interviewer has made fewer calls today than the load, and",
                TermBoundaries::fewerCallsThanTheLoad);
        all.of(part, "if it has an appointment: the present day is that of the appointment and"
                + " the time is its time", TermBoundaries::onTheDay);
        all.of(part, "or its day is over", TermBoundaries::dayIsOver);
        all.of(part, "if it has none, and there were calls: the latest one was at another time"
                + " of the day", TermBoundaries::anotherTime);
        all.of(part, "and at least setting 1 days ago", TermBoundaries::daysAgo);
        all.of(part, "What comes of a call is told: 0 nobody is there", TermBoundaries::nobody);
        all.of(part, "1 refused: the outcome is 2", TermBoundaries::refused);
        all.of(part, "2 an interview of a group: the outcome is 1, or 4 if the quota of its cell"
                + " is full", TermBoundaries::interview);
        all.of(part, "3 an appointment on a later day at a time (in place of an old one)",
                TermBoundaries::inPlaceOfAnOldOne);
        all.of(part, "By any call an appointment that there was is gone.",
                TermBoundaries::appointmentIsGone);
        all.of(part, "A call with 0 is in vain.", TermBoundaries::inVain);
        all.of(part, "An interviewer who calls in another area travels: such calls are counted.",
                TermBoundaries::travels);
    }

    private static void tellOfTheNextCall(Sentences all) {
        String part = "The next call";
        all.of(part, "an appointment on this day at this time; another appointment",
                TermBoundaries::appointmentNow);
        all.of(part, "another appointment; the interviewer's own area",
                TermBoundaries::anotherAppointment);
        all.of(part, "the interviewer's own area; an area in which quotas are open",
                TermBoundaries::ownArea);
        all.of(part, "an area in which quotas are open (of any group) ahead of one in which they"
                + " are all full", TermBoundaries::openQuotas);
        all.of(part, "in which they are all full; fewer calls made there",
                TermBoundaries::quotasAheadOfFewerCalls);
        all.of(part, "fewer calls made there; the lower number", TermBoundaries::fewerCalls);
        all.of(part, "the lower number", TermBoundaries::lowerNumber);
    }

    // ---- what it is, terms

    private static void the512thCall(Due due) {
        FieldQuotas x = new FieldQuotas();
        for (int call = 1; call <= 510; call++) {
            int before = call == 1 ? 2 : (call - 1) % 21;
            due.is("quota, call " + call, x.quota(3, 2, call % 21), before);
        }
        due.is("undo, the call 511", x.undo(), 3);
        due.is("cellOf, the call 512", x.cellOf(3, 2, 0), 509 % 21);
        FieldQuotas y = new FieldQuotas();
        for (int call = 1; call <= 512; call++) {
            due.is("type, call " + call, y.type(59), call <= 80 ? call : -3);
        }
        FieldQuotas z = new FieldQuotas();
        for (int call = 2; call <= 512; call += 2) {
            due.is("address, ahead of the call " + call, z.address(call % 4), 0);
            due.is("undo, call " + call, z.undo(), 0);
        }
    }

    private static void bits(Due due) {
        FieldQuotas x = Made.full();
        for (int k = 0; k < 24; k++) {
            x.call(k % 5, k, 0, 1);
            due.is("refused up to " + k, x.addresses(2), (1 << k + 1) - 1);
            due.is("open above " + k, x.addresses(0), Made.ALL_ADDRESSES - ((1 << k + 1) - 1));
            due.is("possible above " + k, x.possible(4, 0), x.addresses(0));
        }
        FieldQuotas y = Made.houses(1);
        due.is("the address 0 alone", y.addresses(0), 1);
        due.is("a call there", y.possible(0, 2), 1);
    }

    private static void firstDay(Due due) {
        FieldQuotas x = Made.houses(1);
        due.is("the day", x.count(2), 0);
        x.call(0, 0, 2, 0);
        due.is("the day of a call", x.addressOf(0, 4), 0);
        due.is("the day after it", x.pass(1), 1);
    }

    private static void times(Due due) {
        for (int time = 0; time <= 2; time++) {
            FieldQuotas x = Made.houses(2);
            due.is("possible at " + time, x.possible(0, time), 3);
            due.is("next at " + time, x.next(0, time), 0);
            due.is("call at " + time, x.call(0, 0, time, 0), 0);
            due.is("the time of the call", x.addressOf(0, 5), time);
            due.is("later to " + time, x.later(0, 1, 2 - time, 1, time), 1);
            due.is("the time of the appointment", x.addressOf(1, 7), time);
            due.is("the time of its call", x.addressOf(1, 5), 2 - time);
        }
        due.bounds("call at the time", 0, 2, Made::field, (x, n) -> x.call(0, 0, n, 0));
        due.bounds("later at the time", 0, 2, Made::field, (x, n) -> x.later(0, 0, n, 1, 0));
        due.bounds("later to the time", 0, 2, Made::field, (x, n) -> x.later(0, 0, 0, 1, n));
        due.bounds("next at the time", 0, 2, Made::field, (x, n) -> x.next(0, n));
        due.bounds("possible at the time", 0, 2, Made::field, (x, n) -> x.possible(0, n));
    }

    private static void areasAndGroups(Due due) {
        FieldQuotas x = new FieldQuotas();
        for (int cell = 0; cell < 12; cell++) {
            due.is("quota of the cell " + cell, x.quota(cell / 3, cell % 3, cell), 2);
            due.is("people of the cell " + cell, x.population(cell / 3, cell % 3, 500 + cell), 100);
        }
        for (int cell = 0; cell < 12; cell++) {
            due.is("each has its own quota", x.cellOf(cell / 3, cell % 3, 0), cell);
            due.is("each has its own people", x.cellOf(cell / 3, cell % 3, 3), 500 + cell);
        }
        due.is("no area 4", x.cellOf(4, 0, 0), -1);
        due.is("no group 3, which is not the group 0 of the next area", x.cellOf(0, 3, 0), -1);
        due.is("no group 3 of the last area", x.cellOf(3, 3, 0), -1);
        due.is("no group -1, which is not the group 2 of the area ahead", x.cellOf(1, -1, 0), -1);
        due.is("no area -1", x.cellOf(-1, 2, 0), -1);
    }

    private static void quotas(Due due) {
        FieldQuotas x = new FieldQuotas();
        for (int cell = 0; cell < 12; cell++) {
            due.is("at first", x.cellOf(cell / 3, cell % 3, 0), 2);
        }
        due.is("the most", x.quota(0, 0, 20), 2);
        due.is("the least", x.quota(0, 0, 0), 20);
        due.is("21", x.quota(0, 0, 21), -1);
        due.is("-1", x.quota(0, 0, -1), -1);
        due.is("it stays", x.cellOf(0, 0, 0), 0);
    }

    private static void populations(Due due) {
        FieldQuotas x = new FieldQuotas();
        for (int cell = 0; cell < 12; cell++) {
            due.is("at first", x.cellOf(cell / 3, cell % 3, 3), 100);
        }
        due.is("the most", x.population(0, 0, 9999), 100);
        due.is("the least", x.population(0, 0, 0), 9999);
        due.is("10000", x.population(0, 0, 10000), -1);
        due.is("-1", x.population(0, 0, -1), -1);
        due.is("it stays", x.cellOf(0, 0, 3), 0);
    }

    // ---- addresses

    private static void atMost24(Due due) {
        FieldQuotas x = new FieldQuotas();
        for (int i = 0; i < 24; i++) {
            due.is("its number", x.address(3 - i % 4), i);
        }
        due.is("the 25th", x.address(0), -3);
        due.is("there are 24", x.count(0), 24);
        due.is("the last one has an area", x.addressOf(23, 0), 0);
        due.is("there is no address 24", x.addressOf(24, 0), -1);
    }

    private static void openAtFirst(Due due) {
        FieldQuotas x = Made.outcomes();
        due.is("one more", x.address(3), 5);
        due.is("no outcome", x.addressOf(5, 1), 0);
        due.is("no calls", x.addressOf(5, 2), 0);
        due.is("open ones", x.addresses(0), 1 | 1 << 5);
        due.is("a call is possible", x.possible(0, 0), 1 | 1 << 5);
    }

    private static void once(Due due) {
        for (int what = 0; what <= 4; what++) {
            for (int address = 1; address <= 4; address++) {
                FieldQuotas x = Made.outcomes();
                x.quota(0, 1, 20);
                x.set(0, 9);
                x.pass(20);
                due.is("call " + what, x.call(0, address, 1, what), -2);
                due.is("later", x.later(0, address, 1, 30, 1), -2);
                due.is("the outcome stays", x.addressOf(address, 1), address);
            }
        }
    }

    private static void outcomes(Due due) {
        FieldQuotas x = Made.outcomes();
        for (int outcome = 0; outcome <= 4; outcome++) {
            due.is("the outcome", x.addressOf(outcome, 1), outcome);
            due.is("those with it", x.addresses(outcome), 1 << outcome);
            due.is("a group", x.addressOf(outcome, 8), outcome == 1 ? 0 : -4);
        }
        due.is("there is no outcome 5: these are appointments", x.addresses(5), 0);
    }

    private static void perhapsAnAppointment(Due due) {
        FieldQuotas x = Made.houses(1);
        due.is("no calls", x.addressOf(0, 2), 0);
        due.is("no day", x.addressOf(0, 6), -4);
        due.is("no time", x.addressOf(0, 7), -4);
        x.later(0, 0, 1, 1, 0);
        due.is("one call", x.addressOf(0, 2), 1);
        due.is("a day", x.addressOf(0, 6), 1);
        due.is("a time", x.addressOf(0, 7), 0);
    }

    private static void notReached(Due due) {
        for (int limit = 1; limit <= 9; limit++) {
            FieldQuotas x = Made.houses(1);
            x.set(0, limit);
            due.is("a call that is not in vain", x.later(0, 0, 0, 1, 0), 1);
            for (int vain = 1; vain <= limit; vain++) {
                x.pass(2);
                int outcome = vain == limit ? 3 : 0;
                due.is("in vain " + vain + " of " + limit, x.call(0, 0, vain % 3, 0), outcome);
                due.is("its outcome", x.addressOf(0, 1), outcome);
            }
        }
    }

    private static void notWanted(Due due) {
        for (int quota = 0; quota <= 20; quota++) {
            FieldQuotas x = new FieldQuotas();
            for (int i = 0; i < 3; i++) {
                x.interviewer(0, 9);
            }
            x.quota(2, 1, quota);
            for (int i = 0; i <= quota; i++) {
                x.address(2);
                int outcome = i == quota ? 4 : 1;
                due.is("interview " + i + " of " + quota, x.call(i / 9, i, 0, 3), outcome);
            }
            due.is("interviews of the cell", x.cellOf(2, 1, 1), quota);
        }
        FieldQuotas y = Made.housesIn(1, 1, 1, 2);
        y.quota(1, 2, 1);
        y.call(0, 0, 0, 4);
        due.is("the quota of another group is open", y.call(0, 1, 0, 3), 1);
        due.is("the quota of another area is open", y.call(0, 3, 0, 4), 1);
        y.quota(1, 2, 0);
        due.is("the quota is below the interviews", y.call(0, 2, 0, 4), 4);
    }

    // ---- interviewers and calls

    private static void atMost5(Due due) {
        FieldQuotas x = new FieldQuotas();
        for (int i = 0; i < 5; i++) {
            due.is("its number", x.interviewer(i % 4, 1 + 2 * i), i);
        }
        due.is("the 6th", x.interviewer(0, 1), -3);
        due.is("there are 5", x.count(1), 5);
        due.is("the area of the last", x.interviewerOf(4, 0), 0);
        due.is("the load of the last", x.interviewerOf(4, 1), 9);
        due.is("there is no interviewer 5", x.interviewerOf(5, 0), -1);
        due.is("a load of 0", new FieldQuotas().interviewer(0, 0), -1);
        due.is("a load of 10", new FieldQuotas().interviewer(0, 10), -1);
    }

    private static void possibleIfOpen(Due due) {
        FieldQuotas x = Made.outcomes();
        x.pass(9);
        for (int time = 0; time <= 2; time++) {
            due.is("possible at the open one alone", x.possible(0, time), 1);
            for (int address = 1; address <= 4; address++) {
                due.is("call at one with an outcome", x.call(0, address, time, 1), -2);
            }
        }
        due.is("call at the open one", x.call(0, 0, 0, 1), 2);
    }

    private static void fewerCallsThanTheLoad(Due due) {
        for (int load = 1; load <= 9; load++) {
            FieldQuotas x = new FieldQuotas();
            x.interviewer(0, load);
            x.interviewer(0, 9);
            for (int i = 0; i <= load; i++) {
                x.address(0);
            }
            for (int i = 0; i < load; i++) {
                due.is("call " + i + " of " + load, x.call(0, i, 0, 1), 2);
            }
            due.is("none above the load", x.call(0, load, 0, 1), -2);
            due.is("no appointment above the load", x.later(0, load, 0, 1, 0), -2);
            due.is("nothing is possible", x.possible(0, 0), 0);
            due.is("it is for another interviewer", x.possible(1, 0), 1 << load);
            x.pass(1);
            due.is("it is on another day", x.call(0, load, 0, 1), 2);
        }
    }

    private static void onTheDay(Due due) {
        for (int time = 0; time <= 2; time++) {
            for (int then = 0; then <= 2; then++) {
                FieldQuotas x = Made.houses(1);
                x.later(0, 0, 0, 5, then);
                x.pass(4);
                due.is("the day ahead of it", x.possible(0, time), 0);
                due.is("a call on the day ahead of it", x.call(0, 0, time, 0), -2);
                x.pass(1);
                due.is("on the day", x.possible(0, time), time == then ? 1 : 0);
                due.is("a call on the day", x.call(0, 0, time, 0), time == then ? 0 : -2);
            }
        }
    }

    private static void dayIsOver(Due due) {
        for (int time = 0; time <= 2; time++) {
            FieldQuotas x = Made.houses(1);
            x.set(1, 9);
            x.later(0, 0, time, 1, 2 - time);
            x.pass(2);
            due.is("possible at any time", x.possible(0, time), 1);
            due.is("at the time of the latest call too", x.call(0, 0, time, 0), 0);
        }
    }

    private static void anotherTime(Due due) {
        for (int before = 0; before <= 2; before++) {
            for (int time = 0; time <= 2; time++) {
                FieldQuotas x = Made.field();
                x.call(0, 0, before, 0);
                x.pass(1);
                due.is("possible", x.possible(1, time) & 1, time == before ? 0 : 1);
                due.is("a call", x.call(1, 0, time, 0), time == before ? -2 : 0);
            }
        }
        FieldQuotas y = Made.houses(1);
        y.call(0, 0, 0, 0);
        y.pass(1);
        y.call(0, 0, 1, 0);
        y.pass(1);
        due.is("the latest call alone counts", y.possible(0, 0), 1);
        y.pass(99);
        due.is("it counts for ever", y.possible(0, 1), 0);
    }

    private static void daysAgo(Due due) {
        for (int days = 0; days <= 9; days++) {
            FieldQuotas x = Made.houses(1);
            x.set(1, days);
            x.pass(3);
            x.call(0, 0, 0, 0);
            for (int ago = 0; ago <= days; ago++) {
                due.is(ago + " days ago of " + days, x.possible(0, 1), ago < days ? 0 : 1);
                due.is("at the same time", x.possible(0, 0), 0);
                if (ago < days) {
                    due.is("a call " + ago + " days ago", x.call(0, 0, 1, 1), -2);
                    x.pass(1);
                }
            }
            due.is("a call " + days + " days ago", x.call(0, 0, 1, 1), 2);
        }
    }

    private static void nobody(Due due) {
        FieldQuotas x = Made.houses(1);
        due.is("it stays open", x.call(0, 0, 0, 0), 0);
        due.is("a call was made", x.addressOf(0, 2), 1);
        due.is("it was in vain", x.addressOf(0, 3), 1);
        due.is("no interview", x.interviewerOf(0, 4), 0);
    }

    private static void refused(Due due) {
        FieldQuotas x = Made.houses(1);
        x.set(0, 1);
        due.is("the outcome", x.call(0, 0, 0, 1), 2);
        due.is("it stands", x.addressOf(0, 1), 2);
        due.is("it was not in vain", x.addressOf(0, 3), 0);
        due.is("no interview", x.interviewerOf(0, 4), 0);
    }

    private static void interview(Due due) {
        for (int group = 0; group <= 2; group++) {
            FieldQuotas x = Made.housesIn(3, 3);
            x.quota(3, group, 1);
            due.is("the outcome", x.call(0, 0, 0, 2 + group), 1);
            due.is("the interview is of its cell", x.cellOf(3, group, 1), 1);
            due.is("all interviews", x.count(5), 1);
            due.is("the outcome with a full quota", x.call(0, 1, 0, 2 + group), 4);
            due.is("no interview more", x.cellOf(3, group, 1) + x.interviewerOf(0, 4), 2);
        }
    }

    private static void inPlaceOfAnOldOne(Due due) {
        FieldQuotas x = Made.houses(1);
        due.is("today is not later", x.later(0, 0, 0, 0, 2), -2);
        due.is("the next day is", x.later(0, 0, 0, 1, 2), 1);
        x.pass(1);
        due.is("the same day as the old one", x.later(0, 0, 2, 1, 2), -2);
        due.is("the old one stays then", x.addressOf(0, 6) * 10 + x.addressOf(0, 7), 12);
        due.is("there is one still", x.later(0, 0, 2, 999, 0), 1);
        due.is("its day", x.addressOf(0, 6), 999);
        due.is("its time", x.addressOf(0, 7), 0);
    }

    private static void appointmentIsGone(Due due) {
        for (int what = 0; what <= 3; what++) {
            FieldQuotas x = Made.houses(1);
            x.quota(0, 1, 0);
            x.later(0, 0, 0, 1, 0);
            x.pass(1);
            x.call(0, 0, 0, what);
            due.is("no day after the call " + what, x.addressOf(0, 6), -4);
            due.is("no time after the call " + what, x.addressOf(0, 7), -4);
            due.is("no appointment is counted", x.count(7), 0);
            due.is("nor told", x.addresses(5), 0);
            x.pass(1);
            due.is("the next call must be at another time", x.possible(0, 0), 0);
        }
        FieldQuotas y = Made.houses(1);
        y.set(0, 1);
        y.later(0, 0, 0, 1, 0);
        y.pass(2);
        due.is("not reached", y.call(0, 0, 2, 0), 3);
        due.is("no day", y.addressOf(0, 6), -4);
    }

    private static void inVain(Due due) {
        FieldQuotas x = Made.field();
        x.quota(3, 0, 0);
        x.call(0, 0, 0, 0);
        due.is("of the address", x.addressOf(0, 3), 1);
        due.is("of all", x.count(4), 1);
        x.call(0, 1, 0, 1);
        x.call(0, 2, 0, 2);
        x.call(0, 3, 0, 2);
        x.pass(1);
        x.later(0, 0, 1, 9, 0);
        due.is("no other call is", x.count(4), 1);
        due.is("the calls", x.count(3), 5);
    }

    private static void travels(Due due) {
        FieldQuotas x = Made.field();
        x.quota(3, 0, 0);
        int[] far = {0, 1, 2, 3};
        int[] what = {0, 0, 1, 2};
        for (int address = 0; address < 4; address++) {
            x.call(0, address, 0, what[address]);
            due.is("travels after " + address, x.interviewerOf(0, 5), far[address]);
        }
        x.pass(1);
        due.is("they are not of one day", x.interviewerOf(0, 5), 3);
        x.later(0, 1, 1, 9, 0);
        due.is("for an appointment too", x.interviewerOf(0, 5), 4);
        x.later(0, 0, 1, 9, 0);
        due.is("not in the own area", x.interviewerOf(0, 5), 4);
        due.is("not of another interviewer", x.interviewerOf(1, 5), 0);
    }

    // ---- the next call: in each test what comes behind speaks for the other address

    /** The appointment of 1 is now, in a far area with full quotas; the one of 0 is over. */
    private static void appointmentNow(Due due) {
        FieldQuotas x = Made.housesIn(0, 2);
        Made.fillQuotas(x, 2);
        x.later(0, 1, 0, 2, 0);
        x.pass(2);
        x.later(0, 1, 0, 4, 1);
        x.later(0, 0, 0, 3, 1);
        x.pass(2);
        due.is("both are possible", x.possible(0, 1), 3);
        due.is("the one that is now", x.next(0, 1), 1);
        due.is("at another time the other alone", x.next(0, 0), 0);
        x.pass(1);
        due.is("both are over", x.next(0, 1), 0);
    }

    private static void anotherAppointment(Due due) {
        FieldQuotas x = Made.housesIn(0, 2);
        Made.fillQuotas(x, 2);
        x.later(0, 1, 0, 1, 0);
        due.is("an appointment to come", x.next(0, 1), 0);
        x.pass(1);
        due.is("of today at another time", x.next(0, 1), 0);
        x.pass(1);
        due.is("both are possible", x.possible(0, 1), 3);
        due.is("the one that is over", x.next(0, 1), 1);
    }

    private static void ownArea(Due due) {
        FieldQuotas x = Made.housesIn(2, 0);
        Made.fillQuotas(x, 0);
        x.interviewer(2, 9);
        x.call(0, 1, 0, 0);
        x.pass(1);
        due.is("both are possible", x.possible(0, 1), 3);
        due.is("with full quotas and a call more", x.next(0, 1), 1);
        due.is("for an interviewer of the other area", x.next(1, 1), 0);
    }

    private static void openQuotas(Due due) {
        for (int group = 0; group <= 2; group++) {
            FieldQuotas x = Made.housesIn(1, 2);
            Made.fillQuotas(x, 1);
            Made.fillQuotas(x, 2);
            due.is("both are full", x.next(0, 0), 0);
            x.quota(2, group, 1);
            due.is("one group is open in the other", x.next(0, 0), 1);
            x.quota(1, 2 - group, 20);
            due.is("one group is open in both", x.next(0, 0), 0);
        }
        FieldQuotas y = Made.housesIn(1, 2, 1);
        Made.fillQuotas(y, 1);
        y.quota(1, 1, 1);
        due.is("one interview is wanted", y.next(0, 0), 0);
        y.call(0, 2, 0, 3);
        due.is("it was made", y.next(0, 0), 1);
        y.quota(1, 1, 0);
        due.is("a quota below its interviews is full", y.next(0, 0), 1);
    }

    /** A cell with more interviews than wanted does not close the open quota of another one. */
    private static void quotasAheadOfFewerCalls(Due due) {
        FieldQuotas x = Made.housesIn(1, 2, 2, 2);
        Made.fillQuotas(x, 1);
        x.call(0, 2, 0, 2);
        x.call(0, 3, 0, 2);
        x.quota(2, 0, 0);
        x.quota(2, 1, 1);
        x.quota(2, 2, 0);
        x.call(0, 1, 0, 0);
        x.pass(1);
        due.is("both are possible", x.possible(0, 1), 3);
        due.is("an open quota and a call more", x.next(0, 1), 1);
    }

    private static void fewerCalls(Due due) {
        FieldQuotas x = Made.houses(2);
        x.interviewer(0, 9);
        x.set(1, 0);
        x.set(0, 9);
        for (int calls = 1; calls <= 4; calls++) {
            x.call(0, 0, calls % 2, 0);
            due.is("both are possible", x.possible(1, 2), 3);
            due.is("none and " + calls, x.next(1, 2), 1);
        }
        x.call(0, 1, 2, 0);
        x.call(0, 1, 1, 0);
        x.call(0, 1, 0, 0);
        due.is("3 and 4", x.next(1, 2), 1);
        x.call(0, 1, 1, 0);
        due.is("4 and 4", x.next(1, 2), 0);
        x.call(0, 1, 0, 0);
        due.is("5 and 4", x.next(1, 2), 0);
        FieldQuotas y = Made.houses(2);
        y.later(0, 0, 0, 1, 0);
        y.later(0, 1, 0, 1, 0);
        y.pass(1);
        y.later(0, 0, 0, 2, 0);
        y.pass(2);
        due.is("all calls count, not those in vain alone", y.next(0, 0), 1);
    }

    private static void lowerNumber(Due due) {
        FieldQuotas x = Made.full();
        for (int i = 0; i < 24; i += 4) {
            due.is("of the own area", x.next(0, 0), i);
            x.call(0, i, 0, 1);
        }
        due.is("of the areas 1 to 3", x.next(0, 0), 1);
        x.call(1, 1, 0, 1);
        due.is("of the areas 1 to 3", x.next(0, 0), 2);
        for (int i = 2; i < 23; i++) {
            x.call(1 + i % 4, i, 0, 1);
        }
        due.is("the highest number", x.next(0, 0), 23);
        x.call(0, 23, 0, 1);
        due.is("none is left", x.next(0, 0), -4);
    }

    // ---- weights, settings

    private static void weights(Due due) {
        FieldQuotas x = Made.full();
        for (int group = 0; group < 3; group++) {
            for (int area = 0; area < 4; area++) {
                x.quota(area, group, 20);
                x.population(area, group, 9999);
            }
        }
        for (int i = 0; i < 24; i++) {
            int area = i % 4;
            int many = 1 + i / 4;
            due.is("no weight yet", x.cellOf(area, 2, 4), i < 4 ? -4 : quotient(9999f, many - 1f));
            x.call(i % 5, i, 0, 4);
            due.is("9999 by " + many, x.cellOf(area, 2, 4), quotient(9999f, many));
        }
        x.population(3, 2, 0);
        due.is("0 by 6", x.cellOf(3, 2, 4), 0);
        x.population(3, 2, 1);
        due.is("1 by 6", x.cellOf(3, 2, 4), quotient(1f, 6f));
    }

    private static int quotient(float above, float below) {
        return Float.floatToIntBits(above / below);
    }

    private static void settingOfCallsInVain(Due due) {
        FieldQuotas x = new FieldQuotas();
        due.is("at first", x.count(10), 4);
        due.is("the least", x.set(0, 1), 4);
        due.is("the most", x.set(0, 9), 1);
        due.is("0", x.set(0, 0), -1);
        due.is("10", x.set(0, 10), -1);
        due.is("it stays", x.count(10), 9);
        due.is("the other stays", x.count(11), 1);
    }

    private static void settingOfDays(Due due) {
        FieldQuotas x = new FieldQuotas();
        due.is("at first", x.count(11), 1);
        due.is("the least", x.set(1, 0), 1);
        due.is("the most", x.set(1, 9), 0);
        due.is("-1", x.set(1, -1), -1);
        due.is("10", x.set(1, 10), -1);
        due.is("it stays", x.count(11), 9);
        due.is("the other stays", x.count(10), 4);
    }
}
