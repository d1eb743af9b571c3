/** The sentences of the promises 15 to 20: what should be done. */
final class PlanBoundaries {
    private PlanBoundaries() {
    }

    static void tell(Sentences all) {
        tellOfNext(all);
        tellOfDaysLeft(all);
        all.of("Promise 18", "of the addresses that have an outcome, those that were interviewed,"
                + " as floats, divided", PlanBoundaries::rate);
        all.of("Promise 18", "NOT_FOUND if no address has an outcome", PlanBoundaries::noOutcome);
        tellOfPart(all);
        all.of("Promise 20", "Restores the latest state of the history, which is removed from it.",
                PlanBoundaries::latestState);
        all.of("Promise 20", "Returns the number of states that are left in the history",
                PlanBoundaries::statesLeft);
        all.of("Promise 20", "NOT_POSSIBLE if it is empty", PlanBoundaries::emptyHistory);
    }

    private static void tellOfNext(Sentences all) {
        all.of("Promise 15", "interviewer: number of the interviewer", PlanBoundaries::whoIsNext);
        all.of("Promise 15", "time: 0 to 2", PlanBoundaries::timeOfNext);
        all.of("Promise 15", "Returns the number of the address", PlanBoundaries::numberOfNext);
        all.of("Promise 15", "INVALID_ARGUMENT if an argument is out of range",
                PlanBoundaries::wrongNext);
        all.of("Promise 15", "NOT_FOUND if no call is possible", PlanBoundaries::noneIsPossible);
        all.of("Promise 16", "interviewer: number of the interviewer",
                PlanBoundaries::forWhomPossible);
        all.of("Promise 16", "time: 0 to 2", PlanBoundaries::timeOfPossible);
        all.of("Promise 16", "Returns the set", PlanBoundaries::possibleSet);
        all.of("Promise 16", "INVALID_ARGUMENT if an argument is out of range",
                PlanBoundaries::wrongPossible);
    }

    private static void tellOfDaysLeft(Sentences all) {
        all.of("Promise 17", "Tells the least number of days, the present one included",
                PlanBoundaries::leastDays);
        all.of("Promise 17", "in which all calls could be made that are needed at most from now"
                + " on", PlanBoundaries::fromNowOn);
        all.of("Promise 17", "of each open address as many as setting 0 less its calls in vain",
                PlanBoundaries::callsThatAreNeeded);
        all.of("Promise 17", "(at least 1)", PlanBoundaries::atLeast1);
        all.of("Promise 17", "by all interviewers with all of their loads", PlanBoundaries::loads);
        all.of("Promise 17", "calls that were made today count for today", PlanBoundaries::today);
        all.of("Promise 17", "and nothing else matters", PlanBoundaries::nothingElse);
        all.of("Promise 17", "0 if no address is open", PlanBoundaries::noneIsOpen);
        all.of("Promise 17", "NOT_FOUND if there is no interviewer and some address is open",
                PlanBoundaries::noInterviewer);
    }

    private static void tellOfPart(Sentences all) {
        all.of("Promise 19", "the sum of the weights of all interviews of this group, over the"
                + " areas in ascending order (the weight of a cell, times its interviews as a"
                + " float)", PlanBoundaries::sumOfGroup);
        all.of("Promise 19", "divided by the sum of those of all groups (over the groups in"
                + " ascending order, within each over the areas)", PlanBoundaries::orderOfSums);
        all.of("Promise 19", "both sums beginning with 0", PlanBoundaries::sumsFrom0);
        all.of("Promise 19", "group: 0 to 2", PlanBoundaries::groups);
        all.of("Promise 19", "INVALID_ARGUMENT if group is out of range",
                PlanBoundaries::wrongGroup);
        all.of("Promise 19", "NOT_FOUND if the latter sum is 0", PlanBoundaries::sumIs0);
    }

    // ---- next, possible

    private static void whoIsNext(Due due) {
        FieldQuotas x = new FieldQuotas();
        for (int i = 0; i < 4; i++) {
            x.interviewer(3 - i, 1);
            x.address(i);
        }
        x.interviewer(2, 1);
        for (int i = 0; i < 5; i++) {
            due.is("next of " + i, x.next(i, 0), i < 4 ? 3 - i : 2);
        }
        x.call(0, 0, 0, 1);
        due.is("one whose load is reached", x.next(0, 0), -4);
        due.is("another one", x.next(1, 0), 2);
        due.is("-1", x.next(-1, 0), -1);
        due.is("5", x.next(5, 0), -1);
    }

    private static void timeOfNext(Due due) {
        FieldQuotas x = Made.houses(3);
        for (int time = 0; time <= 2; time++) {
            x.later(0, time, 0, 1, time);
        }
        x.pass(1);
        for (int time = 0; time <= 2; time++) {
            due.is("next at the time " + time, x.next(0, time), time);
        }
        due.is("-1", x.next(0, -1), -1);
        due.is("3", x.next(0, 3), -1);
    }

    private static void numberOfNext(Due due) {
        FieldQuotas x = Made.full();
        for (int i = 0; i < 23; i++) {
            x.call(i % 5, i, 0, 1);
        }
        due.is("the last number", x.next(0, 0), 23);
        FieldQuotas y = Made.houses(1);
        due.is("the first number", y.next(0, 0), 0);
        due.is("it is told, and no call is made", y.next(0, 0) + y.count(3), 0);
    }

    private static void wrongNext(Due due) {
        due.bounds("interviewer", 0, 1, Made::field, (x, n) -> x.next(n, 0));
        due.bounds("time", 0, 2, Made::field, (x, n) -> x.next(0, n));
        due.is("no interviewer", new FieldQuotas().next(0, 0), -1);
    }

    private static void noneIsPossible(Due due) {
        due.is("no address", Made.houses(0).next(0, 0), -4);
        FieldQuotas x = Made.outcomes();
        x.call(0, 0, 0, 1);
        x.pass(9);
        due.is("no open address", x.next(0, 1), -4);
        FieldQuotas y = Made.houses(1);
        y.call(0, 0, 1, 0);
        due.is("on the same day", y.next(0, 0), -4);
        y.pass(1);
        due.is("at the same time", y.next(0, 1), -4);
        due.is("at another time", y.next(0, 0), 0);
        y.later(0, 0, 0, 3, 2);
        y.pass(1);
        due.is("ahead of the appointment's day", y.next(0, 2), -4);
        y.pass(1);
        due.is("at another time than its own", y.next(0, 1), -4);
        due.is("at its time", y.next(0, 2), 0);
        FieldQuotas z = Made.houses(10);
        for (int i = 0; i < 9; i++) {
            z.call(0, i, 0, 1);
        }
        due.is("the load is reached", z.next(0, 0), -4);
        z.pass(1);
        due.is("on another day", z.next(0, 0), 9);
    }

    private static void forWhomPossible(Due due) {
        FieldQuotas x = new FieldQuotas();
        for (int who = 0; who < 5; who++) {
            x.interviewer(0, 1);
            x.address(0);
        }
        for (int who = 0; who < 5; who++) {
            due.is("ahead of the call of " + who, x.possible(who, 0), 31 - ((1 << who) - 1));
            x.call(who, who, 0, 1);
            due.is("behind the call of " + who, x.possible(who, 0), 0);
        }
        due.is("-1", x.possible(-1, 0), -1);
        due.is("5", x.possible(5, 0), -1);
    }

    private static void timeOfPossible(Due due) {
        FieldQuotas x = Made.houses(3);
        for (int time = 0; time <= 2; time++) {
            x.call(0, time, time, 0);
        }
        x.pass(1);
        for (int time = 0; time <= 2; time++) {
            due.is("possible at the time " + time, x.possible(0, time), 7 - (1 << time));
        }
        due.is("-1", x.possible(0, -1), -1);
        due.is("3", x.possible(0, 3), -1);
    }

    private static void possibleSet(Due due) {
        due.is("no address", Made.houses(0).possible(0, 0), 0);
        FieldQuotas x = Made.full();
        due.is("all", x.possible(4, 2), Made.ALL_ADDRESSES);
        x.call(0, 0, 2, 0);
        x.later(0, 12, 2, 1, 0);
        x.call(0, 23, 2, 1);
        int rest = Made.ALL_ADDRESSES - 1 - (1 << 12) - (1 << 23);
        due.is("on this day", x.possible(0, 1), rest);
        x.pass(1);
        due.is("on the next day", x.possible(0, 1), rest + 1);
        due.is("at the time of the call", x.possible(0, 2), rest);
        due.is("at the time of the appointment", x.possible(0, 0), rest + 1 + (1 << 12));
        x.pass(1);
        due.is("when it is over", x.possible(0, 2), rest + (1 << 12));
        FieldQuotas y = Made.houses(10);
        for (int i = 0; i < 9; i++) {
            due.is("ahead of the call " + i, y.possible(0, 0), 1023 - ((1 << i) - 1));
            y.call(0, i, 0, 1);
        }
        due.is("the load is reached", y.possible(0, 0), 0);
    }

    private static void wrongPossible(Due due) {
        due.bounds("interviewer", 0, 1, Made::field, (x, n) -> x.possible(n, 0));
        due.bounds("time", 0, 2, Made::field, (x, n) -> x.possible(0, n));
        due.is("no interviewer", new FieldQuotas().possible(0, 0), -1);
    }

    // ---- daysLeft

    private static FieldQuotas crew(int load, int houses, int limit) {
        FieldQuotas x = new FieldQuotas();
        x.interviewer(0, load);
        for (int i = 0; i < houses; i++) {
            x.address(i % 4);
        }
        x.set(0, limit);
        return x;
    }

    private static void leastDays(Due due) {
        for (int load = 1; load <= 9; load++) {
            for (int houses = 1; houses <= 24; houses++) {
                FieldQuotas x = crew(load, houses, 9);
                int days = 0;
                while (days * load < houses * 9) {
                    days++;
                }
                due.is(houses + " addresses by " + load, x.daysLeft(), days);
            }
        }
        due.is("today alone", crew(1, 1, 1).daysLeft(), 1);
    }

    /** Of 24 addresses with 9 calls each, less and less is left, to the last one. */
    private static void fromNowOn(Due due) {
        FieldQuotas x = crew(9, 24, 9);
        for (int ended = 0; ended < 24; ended++) {
            due.is("open: " + (24 - ended), x.daysLeft(), 24 - ended);
            x.call(0, ended, 0, 1);
            x.pass(1);
        }
        due.is("none is open", x.daysLeft(), 0);
    }

    private static void callsThatAreNeeded(Due due) {
        for (int limit = 1; limit <= 9; limit++) {
            FieldQuotas x = crew(1, 2, limit);
            x.call(0, 1, 0, 1);
            x.pass(1);
            for (int vain = 0; vain < limit; vain++) {
                due.is(vain + " in vain of " + limit, x.daysLeft(), limit - vain);
                x.call(0, 0, vain % 2, 0);
                x.pass(1);
            }
            due.is("it is not reached", x.daysLeft(), 0);
        }
        FieldQuotas y = crew(1, 1, 5);
        y.later(0, 0, 0, 1, 0);
        y.pass(1);
        due.is("a call that is not in vain counts not", y.daysLeft(), 5);
    }

    private static void atLeast1(Due due) {
        FieldQuotas x = crew(1, 2, 9);
        for (int vain = 0; vain < 3; vain++) {
            x.call(0, 0, vain % 2, 0);
            x.pass(1);
        }
        due.is("9 and 9, less 3", x.daysLeft(), 15);
        int[] days = {0, 2, 2 + 1, 3 + 1, 4 + 1};
        for (int limit = 1; limit <= 4; limit++) {
            x.set(0, limit);
            due.is("setting 0 is " + limit, x.daysLeft(), days[limit]);
        }
    }

    private static void loads(Due due) {
        FieldQuotas x = crew(9, 24, 9);
        int[] days = {24, 12, 8, 6, 5};
        for (int many = 1; many <= 5; many++) {
            due.is("interviewers: " + many, x.daysLeft(), days[many - 1]);
            x.interviewer(3, 9);
        }
        FieldQuotas y = crew(1, 3, 3);
        y.interviewer(1, 2);
        y.interviewer(2, 6);
        due.is("9 calls by 1 and 2 and 6", y.daysLeft(), 1);
        y.address(0);
        due.is("12 calls by 1 and 2 and 6", y.daysLeft(), 2);
    }

    private static void today(Due due) {
        FieldQuotas x = new FieldQuotas();
        x.interviewer(0, 2);
        x.interviewer(0, 1);
        for (int i = 0; i < 6; i++) {
            x.address(0);
        }
        x.set(0, 1);
        due.is("6 by 3", x.daysLeft(), 2);
        x.call(0, 0, 0, 1);
        due.is("5, and 2 of them today", x.daysLeft(), 2);
        x.later(0, 1, 0, 9, 0);
        due.is("5, and 1 of them today", x.daysLeft(), 3);
        x.call(1, 2, 0, 1);
        due.is("4, and none of them today", x.daysLeft(), 3);
        x.pass(1);
        due.is("4, and 3 of them today", x.daysLeft(), 2);
        x.call(1, 3, 0, 1);
        due.is("3, and 2 of them today", x.daysLeft(), 2);
        x.call(0, 4, 0, 1);
        x.call(0, 5, 0, 1);
        due.is("1, and none of it today", x.daysLeft(), 2);
        x.pass(1);
        due.is("1, today", x.daysLeft(), 1);
    }

    private static void nothingElse(Due due) {
        FieldQuotas x = crew(1, 2, 4);
        Made.fillQuotas(x, 0);
        due.is("not the quotas", x.daysLeft(), 8);
        x.set(1, 9);
        due.is("not the days between calls", x.daysLeft(), 8);
        x.later(0, 0, 0, 999, 0);
        due.is("not the day of an appointment", x.daysLeft(), 9);
        Made.passTo(x, 998);
        due.is("not the last day", x.daysLeft(), 8);
        due.is("not that no call is possible", x.possible(0, 0), 2);
    }

    private static void noneIsOpen(Due due) {
        due.is("no address", new FieldQuotas().daysLeft(), 0);
        due.is("no address, but an interviewer", Made.houses(0).daysLeft(), 0);
        FieldQuotas x = Made.outcomes();
        due.is("one is open", x.daysLeft(), 1);
        x.call(0, 0, 0, 1);
        due.is("all have an outcome", x.daysLeft(), 0);
        x.pass(1);
        due.is("on another day", x.daysLeft(), 0);
    }

    private static void noInterviewer(Due due) {
        FieldQuotas x = new FieldQuotas();
        x.address(0);
        due.is("an open address", x.daysLeft(), -4);
        x.interviewer(3, 1);
        due.is("an interviewer of another area", x.daysLeft(), 4);
        x.undo();
        due.is("one who was undone", x.daysLeft(), -4);
        x.undo();
        due.is("no address either", x.daysLeft(), 0);
    }

    // ---- rateBits

    private static void rate(Due due) {
        for (int interviewed = 0; interviewed <= 24; interviewed++) {
            FieldQuotas x = Made.full();
            for (int area = 0; area < 4; area++) {
                x.quota(area, 1, 20);
            }
            for (int i = 0; i < 24; i++) {
                x.call(i % 5, i, 0, i < interviewed ? 3 : 1);
                due.is(interviewed + " of " + (i + 1), x.rateBits(), Float.floatToIntBits(
                        (float) Math.min(interviewed, i + 1) / (float) (i + 1)));
            }
        }
        FieldQuotas y = Made.outcomes();
        due.is("one of each outcome, and an open one", y.rateBits(), Float.floatToIntBits(0.25f));
        y.pass(3);
        due.is("on another day", y.rateBits(), Float.floatToIntBits(0.25f));
    }

    private static void noOutcome(Due due) {
        due.is("no address", new FieldQuotas().rateBits(), -4);
        FieldQuotas x = Made.houses(3);
        x.call(0, 0, 0, 0);
        x.later(0, 1, 0, 1, 0);
        due.is("open ones alone", x.rateBits(), -4);
        x.call(0, 2, 0, 1);
        due.is("none was interviewed", x.rateBits(), 0);
        x.undo();
        due.is("an outcome that was undone", x.rateBits(), -4);
    }

    // ---- partBits: many[3 * area + group] interviews of people[3 * area + group]

    private static FieldQuotas surveyed(int[] many, int[] people) {
        FieldQuotas x = new FieldQuotas();
        for (int i = 0; i < 5; i++) {
            x.interviewer(i % 4, 9);
        }
        int address = 0;
        for (int cell = 0; cell < 12; cell++) {
            x.quota(cell / 3, cell % 3, 20);
            x.population(cell / 3, cell % 3, people[cell]);
            for (int i = 0; i < many[cell]; i++) {
                x.address(cell / 3);
                x.call(address % 5, address, 0, 2 + cell % 3);
                address++;
            }
        }
        return x;
    }

    /** The weight of 4097 by 7, times 7, is not 4097 again; so are the others. */
    private static void sumOfGroup(Due due) {
        int[] many = {0, 0, 0, 7, 1, 0, 0, 0, 0, 0, 0, 0};
        for (int people = 0; people <= 9999; people += people < 100 ? 1 : 97) {
            int[] all = {100, 100, 100, people, 3, 100, 100, 100, 100, 100, 100, 100};
            float own = (float) people / 7f * 7f;
            FieldQuotas x = surveyed(many, all);
            due.is(people + " by 7", x.partBits(0), Float.floatToIntBits(own / (own + 3f)));
            due.is("the rest of it", x.partBits(1), Float.floatToIntBits(3f / (own + 3f)));
        }
    }

    /** In these the bits differ if the cells are taken in another order. */
    private static void orderOfSums(Due due) {
        int[][] many = {{7, 0, 3, 0, 7, 0, 0, 0, 0, 0, 7, 0}, {7, 4, 0, 0, 0, 0, 0, 0, 0, 0, 13, 0},
            {0, 0, 0, 0, 11, 0, 0, 2, 0, 11, 0, 0}, {1, 13, 7, 0, 0, 3, 0, 0, 0, 0, 0, 0},
            {6, 0, 7, 0, 0, 0, 0, 0, 0, 0, 0, 11}, {0, 0, 11, 0, 0, 7, 0, 0, 0, 0, 6, 0}};
        int[][] people = {{3653, 9, 2537, 9, 7901, 9, 9, 9, 9, 9, 1747, 9},
            {1970, 261, 9, 9, 9, 9, 9, 9, 9, 9, 6875, 9},
            {9, 9, 9, 9, 1823, 9, 9, 1206, 9, 7589, 9, 9},
            {1194, 6801, 1010, 9, 9, 700, 9, 9, 9, 9, 9, 9},
            {283, 9, 905, 9, 9, 9, 9, 9, 9, 9, 9, 3437},
            {9, 9, 1008, 9, 9, 7313, 9, 9, 9, 9, 385, 9}};
        int[] group = {1, 0, 0, 1, 2, 2};
        int[] bits = {1058796141, 1046317173, 1060567174, 1060333016, 1064326634, 1064611286};
        for (int i = 0; i < bits.length; i++) {
            FieldQuotas x = surveyed(many[i], people[i]);
            due.is("the sums " + i, x.partBits(group[i]), bits[i]);
            due.is("all interviews are made", x.count(5), x.count(0));
        }
    }

    private static void sumsFrom0(Due due) {
        int[] people = {1, 1, 1, 1, 1, 1, 1, 1, 1, 1, 1, 9999};
        int[] one = {0, 0, 0, 0, 0, 0, 1, 0, 0, 0, 0, 0};
        due.is("one interview", surveyed(one, people).partBits(0), Float.floatToIntBits(1f));
        due.is("of a group without", surveyed(one, people).partBits(1), 0);
        int[] two = {1, 0, 0, 0, 0, 0, 0, 0, 0, 0, 0, 1};
        FieldQuotas x = surveyed(two, people);
        due.is("the first cell", x.partBits(0), Float.floatToIntBits(1f / 10000f));
        due.is("the last cell", x.partBits(2), Float.floatToIntBits(9999f / 10000f));
        due.is("asked again", x.partBits(0), Float.floatToIntBits(1f / 10000f));
    }

    private static void groups(Due due) {
        int[] many = {1, 0, 0, 0, 1, 0, 0, 0, 1, 1, 0, 0};
        int[] people = {100, 9, 9, 9, 200, 9, 9, 9, 500, 200, 9, 9};
        float[] parts = {0.3f, 0.2f, 0.5f};
        FieldQuotas x = surveyed(many, people);
        for (int group = 0; group <= 2; group++) {
            due.is("the group " + group, x.partBits(group), Float.floatToIntBits(parts[group]));
        }
        due.is("-1", x.partBits(-1), -1);
        due.is("3", x.partBits(3), -1);
    }

    private static void wrongGroup(Due due) {
        due.bounds("group", 0, 2, Made::outcomes, (x, n) -> x.partBits(n));
        due.bounds("group without interviews", 0, 2, Made::field, (x, n) -> x.partBits(n));
    }

    private static void sumIs0(Due due) {
        FieldQuotas x = Made.houses(2);
        due.is("no interview", x.partBits(0), -4);
        x.call(0, 0, 0, 2);
        due.is("one", x.partBits(0), Float.floatToIntBits(1f));
        due.is("none of this group", x.partBits(1), 0);
        x.population(0, 0, 0);
        for (int group = 0; group <= 2; group++) {
            due.is("one of a cell without people", x.partBits(group), -4);
        }
        x.call(0, 1, 0, 4);
        due.is("another cell has people", x.partBits(0), 0);
        due.is("another cell has people", x.partBits(2), Float.floatToIntBits(1f));
        x.undo();
        due.is("an interview that was undone", x.partBits(2), -4);
    }

    // ---- undo

    private static void latestState(Due due) {
        FieldQuotas x = new FieldQuotas();
        x.quota(0, 0, 10);
        x.quota(0, 0, 11);
        x.quota(0, 0, 12);
        due.is("two are left", x.undo(), 2);
        due.is("the latest", x.cellOf(0, 0, 0), 11);
        due.is("one is left", x.undo(), 1);
        due.is("the one ahead of it", x.cellOf(0, 0, 0), 10);
        x.quota(0, 0, 13);
        due.is("the change is undone, not the undo", x.undo(), 1);
        due.is("the state ahead of the change", x.cellOf(0, 0, 0), 10);
        due.is("none is left", x.undo(), 0);
        due.is("the first", x.cellOf(0, 0, 0), 2);
    }

    private static void statesLeft(Due due) {
        for (int changes = 1; changes <= 12; changes++) {
            FieldQuotas x = new FieldQuotas();
            for (int i = 0; i < changes; i++) {
                x.address(0);
            }
            for (int left = Math.min(4, changes) - 1; left >= 0; left--) {
                due.is("left of " + changes, x.undo(), left);
                due.is("states", x.count(8), left);
            }
            due.is("addresses that can't be undone", x.count(0), Math.max(0, changes - 4));
        }
    }

    private static void emptyHistory(Due due) {
        due.refuses("a new object", -2, FieldQuotas::new, x -> x.undo());
        due.refuses("all is undone", -2, () -> {
            FieldQuotas x = Made.field();
            for (int i = 0; i < 4; i++) {
                x.undo();
            }
            return x;
        }, x -> x.undo());
        FieldQuotas x = new FieldQuotas();
        x.address(4);
        x.type(65);
        due.is("an error and a text are no changes", x.undo(), -2);
        x.address(0);
        due.is("a change", x.undo(), 0);
        due.is("empty again", x.undo(), -2);
        due.is("still", x.undo(), -2);
        x.address(0);
        due.is("a change again", x.undo(), 0);
    }
}
