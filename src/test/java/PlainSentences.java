/** The sentences that name no edge: ordinary inputs, and what the promises are about. */
final class PlainSentences {
    private PlainSentences() {
    }

    static void tell(Sentences all) {
        all.of("What it is", "Fieldwork of a survey: addresses in areas, interviewers with loads,"
                + " calls by days and times of the day, appointments, call-backs that must change"
                + " the time, outcomes of each address, quotas by areas and groups, interviews that"
                + " are not wanted any more, the next call that each interviewer should make, what"
                + " is left to do, weights by populations as floats, a forecast of the days, and"
                + " commands as texts with places and reasons of faults.",
                PlainSentences::fieldwork);
        all.free("What it is", "what later calls answer is free.");
        all.of("Terms", "All numbers are whole numbers, where no float is told.",
                PlainSentences::wholeNumbers);
        all.of("Terms", "A cell is an area and a group;", PlainSentences::cells);
        all.of("Interviewers and calls", "A call of an interviewer at an address, at a time of the"
                + " present day, is possible", PlainSentences::possibleCalls);
        all.of("The next call", "An interviewer should make the next call now, at a time of the"
                + " day, at the address at which it is possible, for which these come first, one"
                + " behind another:", PlainSentences::oneBehindAnother);
        tellOfChanges(all);
        tellOfLooks(all);
        tellOfPlans(all);
        all.of("Promise 21", "Appends a character to the text.", PlainSentences::appends);
        all.of("Promise 23", "Tells about the fault of the text.", PlainSentences::aboutTheFault);
        all.of("Promise 23", "Returns that;", PlainSentences::faultIsReturned);
        all.free("Not promised", "How the state is held inside the object is free, as are the speed"
                + " of each call, the text of toString and the behaviour of equals and hashCode."
                + " Use of one object from several threads at once is not promised to be safe."
                + " Nothing is promised beyond the answers and state changes described above, and"
                + " nothing about an object after its 512th call.");
    }

    private static void tellOfChanges(Sentences all) {
        all.of("Promise 3", "Adds an interviewer.", PlainSentences::addsAnInterviewer);
        all.of("Promise 4", "Sets the quota of a cell", PlainSentences::setsAQuota);
        all.of("Promise 5", "Sets the population of a cell.", PlainSentences::setsAPopulation);
        all.of("Promise 6", "An interviewer calls at an address.", PlainSentences::calls);
        all.of("Promise 8", "Lets days go by.", PlainSentences::daysGoBy);
        all.of("Promise 9", "Sets a setting", PlainSentences::setsASetting);
    }

    private static void tellOfLooks(Sentences all) {
        String returns = "Returns the number;";
        all.of("Promise 10", "Returns something of an address.", PlainSentences::ofAnAddress);
        all.of("Promise 10", returns, PlainSentences::ofAnAddress);
        all.of("Promise 11", "Returns something of an interviewer.",
                PlainSentences::ofAnInterviewer);
        all.of("Promise 11", returns, PlainSentences::ofAnInterviewer);
        all.of("Promise 12", "Returns something of a cell.", PlainSentences::ofACell);
        all.of("Promise 12", returns, PlainSentences::ofACell);
        all.of("Promise 13", "Returns addresses of some kind.", PlainSentences::ofSomeKind);
        all.of("Promise 13", "Returns the set;", PlainSentences::ofSomeKind);
        all.of("Promise 14", "Returns a number.", PlainSentences::numbers);
        all.of("Promise 14", returns, PlainSentences::numbers);
    }

    private static void tellOfPlans(Sentences all) {
        all.of("Promise 15", "Tells the address at which an interviewer should make the next call.",
                PlainSentences::nextCalls);
        all.of("Promise 16", "Tells the addresses at which a call of an interviewer is possible"
                + " now.", PlainSentences::possibleNow);
        all.of("Promise 17", "Returns how many days,", PlainSentences::howManyDays);
        all.of("Promise 18", "Returns the bits of a rate as a float:", PlainSentences::rateAsFloat);
        all.of("Promise 18", "Returns the bits;", PlainSentences::bitsOfTheRate);
        all.of("Promise 19", "Returns the bits of the weighted part of a group as a float:",
                PlainSentences::partAsFloat);
        all.of("Promise 19", "all as floats,", PlainSentences::allAsFloats);
        all.of("Promise 19", "Returns the bits;", PlainSentences::bitsOfTheParts);
    }

    // ---- what it is: three days of a survey, and a text on the last of them

    private static void fieldwork(Due due) {
        FieldQuotas x = new FieldQuotas();
        int[] areas = {0, 0, 1, 1};
        for (int i = 0; i < areas.length; i++) {
            due.is("an address", x.address(areas[i]), i);
        }
        due.is("an interviewer with the load 2", x.interviewer(0, 2), 0);
        due.is("an interviewer with the load 1", x.interviewer(1, 1), 1);
        due.is("a quota", x.quota(1, 0, 1), 2);
        due.is("a population", x.population(0, 0, 300), 100);
        due.is("16 calls, 3 a day", x.daysLeft(), 6);
        firstDay(due, x);
        secondDay(due, x);
        thirdDay(due, x);
        textOfTheThirdDay(due, x);
    }

    private static void firstDay(Due due, FieldQuotas x) {
        due.is("next", x.next(0, 0), 0);
        due.is("nobody is there", x.call(0, 0, 0, 0), 0);
        due.is("next", x.next(0, 0), 1);
        due.is("an appointment", x.later(0, 1, 0, 2, 1), 1);
        due.is("the load is reached", x.next(0, 0), -4);
        due.is("next of the other", x.next(1, 0), 2);
        due.is("an interview", x.call(1, 2, 0, 2), 1);
        due.is("11 calls, none today", x.daysLeft(), 5);
    }

    private static void secondDay(Due due, FieldQuotas x) {
        due.is("a day goes by", x.pass(1), 1);
        due.is("the time must change at 0", x.possible(0, 0), 8);
        due.is("at another time", x.possible(0, 1), 1 + 8);
        due.is("next", x.next(0, 1), 0);
        due.is("refused", x.call(0, 0, 1, 1), 2);
        due.is("next of the other", x.next(1, 1), 3);
        due.is("not wanted any more", x.call(1, 3, 1, 2), 4);
    }

    private static void thirdDay(Due due, FieldQuotas x) {
        due.is("a day goes by", x.pass(1), 2);
        due.is("with an appointment", x.addresses(5), 2);
        due.is("not in the morning", x.next(0, 0), -4);
        due.is("in the afternoon", x.next(0, 1), 1);
        due.is("4 calls, 3 a day", x.daysLeft(), 2);
        due.is("an interview", x.call(0, 1, 1, 2), 1);
        due.is("nothing is left", x.daysLeft(), 0);
        due.is("a weight", x.cellOf(0, 0, 4), Float.floatToIntBits(300f));
        due.is("another", x.cellOf(1, 0, 4), Float.floatToIntBits(100f));
        due.is("2 of 4", x.rateBits(), Float.floatToIntBits(0.5f));
        due.is("all of the group 0", x.partBits(0), Float.floatToIntBits(1f));
        due.is("wanted still", x.count(6), 21);
    }

    private static void textOfTheThirdDay(Due due, FieldQuotas x) {
        Due.write(x, "address 2;none 0 4 1;day 9;take 0 4 1 2;");
        due.is("the place of the fault", x.fault(0), 27);
        due.is("its reason", x.fault(1), 3);
        due.is("it is not done", x.play(), -2);
        Due.rewrite(x, "address 2;none 0 4 1;day 9;take 0 4 2 2;");
        due.is("no fault", x.fault(0), -4);
        due.is("four commands", x.play(), 4);
        due.is("an interview", x.cellOf(2, 2, 1), 1);
        due.is("undo", x.undo(), 3);
        due.is("the addresses ahead of it", x.count(0), 4);
        due.is("the day ahead of it", x.count(2), 2);
    }

    // ---- terms

    private static void wholeNumbers(Due due) {
        FieldQuotas x = new FieldQuotas();
        x.interviewer(0, 3);
        x.address(0);
        due.is("4 calls by 3 are 2 days", x.daysLeft(), 2);
        x.address(0);
        x.address(0);
        x.call(0, 0, 0, 2);
        x.call(0, 1, 0, 2);
        x.call(0, 2, 0, 1);
        x.population(0, 0, 7);
        due.is("the weight is a float", x.cellOf(0, 0, 4), Float.floatToIntBits(3.5f));
        due.is("the population is whole", x.cellOf(0, 0, 3), 7);
        due.is("the rate is a float", x.rateBits(), Float.floatToIntBits(2f / 3f));
        due.is("the part is a float", x.partBits(0), Float.floatToIntBits(1f));
    }

    /** An interview of a cell counts there alone, and fills the quota there alone. */
    private static void cells(Due due) {
        for (int cell = 0; cell < 12; cell++) {
            FieldQuotas x = new FieldQuotas();
            x.interviewer(0, 9);
            x.quota(cell / 3, cell % 3, 1);
            for (int i = 0; i < 8; i++) {
                x.address(i % 4);
            }
            due.is("an interview", x.call(0, cell / 3, 0, 2 + cell % 3), 1);
            for (int other = 0; other < 12; other++) {
                boolean isIt = other == cell;
                due.is("quota", x.cellOf(other / 3, other % 3, 0), isIt ? 1 : 2);
                due.is("interviews", x.cellOf(other / 3, other % 3, 1), isIt ? 1 : 0);
                due.is("another interview", x.call(0, 4 + other / 3, 0, 2 + other % 3),
                        isIt ? 4 : 1);
                x.undo();
            }
        }
    }

    /** The day 3, with each kind of address; the load of the interviewer 1 is reached. */
    private static FieldQuotas thursday() {
        FieldQuotas x = new FieldQuotas();
        x.interviewer(0, 9);
        x.interviewer(1, 1);
        for (int i = 0; i < 8; i++) {
            x.address(i % 4);
        }
        x.call(0, 1, 0, 0);
        x.later(0, 2, 0, 3, 1);
        x.later(0, 3, 0, 5, 1);
        x.call(0, 4, 0, 1);
        x.call(0, 5, 0, 2);
        x.later(0, 6, 0, 2, 2);
        x.pass(3);
        x.call(1, 7, 2, 0);
        return x;
    }

    private static final int[] ON_THURSDAY = {1 | 1 << 6, 1 | 1 << 1 | 1 << 2 | 1 << 6,
        1 | 1 << 1 | 1 << 6};

    private static void possibleCalls(Due due) {
        for (int time = 0; time <= 2; time++) {
            for (int address = 0; address < 8; address++) {
                boolean can = (ON_THURSDAY[time] >> address & 1) == 1;
                String what = "call at " + address + ", at the time " + time;
                due.is(what, thursday().call(0, address, time, 1), can ? 2 : -2);
                due.is(what, thursday().call(0, address, time, 3), can ? 1 : -2);
                due.is(what, thursday().call(0, address, time, 0), can ? 0 : -2);
                due.holds(what, thursday().later(0, address, time, 4, 0) > 0 == can);
                due.is(what, thursday().call(1, address, time, 1), -2);
            }
        }
    }

    /** In the afternoon of the day 2, with an address or two of each kind. */
    private static void oneBehindAnother(Due due) {
        FieldQuotas x = Made.housesIn(1, 2, 2, 0, 0, 1, 0, 1, 2, 0, 1, 0);
        x.interviewer(3, 9);
        x.interviewer(3, 9);
        Made.fillQuotas(x, 1);
        x.call(0, 1, 0, 0);
        x.call(0, 3, 0, 0);
        x.later(0, 5, 0, 1, 2);
        x.later(0, 6, 0, 1, 2);
        for (int now : new int[] {7, 8, 11}) {
            x.later(0, now, 0, 2, 1);
        }
        x.pass(2);
        int[] order = {11, 8, 7, 6, 5, 4, 9, 3, 2, 1, 0, 10};
        for (int i = 0; i < order.length; i++) {
            due.is("the call " + i, x.next(0, 1), order[i]);
            due.is("another one makes it", x.call(1 + i / 9, order[i], 1, 1), 2);
        }
        due.is("none is left", x.next(0, 1), -4);
    }

    // ---- changes

    private static void addsAnInterviewer(Due due) {
        FieldQuotas x = Made.housesIn(0, 2);
        due.is("the number", x.interviewer(2, 7), 1);
        due.is("how many there are", x.count(1), 2);
        due.is("the area", x.interviewerOf(1, 0), 2);
        due.is("the load", x.interviewerOf(1, 1), 7);
        due.is("the next call", x.next(1, 0), 1);
        due.is("a call", x.call(1, 1, 0, 1), 2);
        due.is("the other one stays", x.interviewerOf(0, 0) * 10 + x.interviewerOf(0, 1), 9);
    }

    private static void setsAQuota(Due due) {
        FieldQuotas x = Made.housesIn(2, 2, 2, 2);
        due.is("what it was", x.quota(2, 1, 3), 2);
        due.is("what it is", x.cellOf(2, 1, 0), 3);
        due.is("wanted still", x.cellOf(2, 1, 2), 3);
        for (int i = 0; i < 4; i++) {
            due.is("the interview " + i, x.call(0, i, 0, 3), i < 3 ? 1 : 4);
        }
        due.is("the population stays", x.cellOf(2, 1, 3), 100);
    }

    private static void setsAPopulation(Due due) {
        FieldQuotas x = Made.housesIn(2, 2);
        x.call(0, 0, 0, 3);
        x.call(0, 1, 0, 4);
        due.is("what it was", x.population(2, 1, 300), 100);
        due.is("what it is", x.cellOf(2, 1, 3), 300);
        due.is("the weight", x.cellOf(2, 1, 4), Float.floatToIntBits(300f));
        due.is("the part of the group", x.partBits(1), Float.floatToIntBits(0.75f));
        due.is("the quota stays", x.cellOf(2, 1, 0), 2);
    }

    private static void calls(Due due) {
        FieldQuotas x = Made.field();
        x.pass(5);
        String others = ofOthers(x);
        due.is("a call", x.call(1, 2, 1, 0), 0);
        int[] address = {2, 0, 1, 1, 5, 1, -4, -4, -4, 1};
        for (int what = 0; what < address.length; what++) {
            due.is("the address: " + what, x.addressOf(2, what), address[what]);
        }
        int[] interviewer = {1, 9, 1, 1, 0, 1};
        for (int what = 0; what < interviewer.length; what++) {
            due.is("the interviewer: " + what, x.interviewerOf(1, what), interviewer[what]);
        }
        due.same("the others stay", ofOthers(x), others);
    }

    /** All of the field but the address 2 and the interviewer 1. */
    private static String ofOthers(FieldQuotas x) {
        StringBuilder all = new StringBuilder();
        for (int address : new int[] {0, 1, 3}) {
            for (int what = 0; what <= 9; what++) {
                all.append(x.addressOf(address, what)).append(' ');
            }
        }
        for (int what = 0; what <= 5; what++) {
            all.append(x.interviewerOf(0, what)).append(' ');
        }
        return all.append(x.count(2)).append(' ').append(x.count(6)).toString();
    }

    private static void daysGoBy(Due due) {
        FieldQuotas x = Made.housesIn(0, 0);
        x.call(0, 0, 0, 0);
        x.later(0, 1, 0, 4, 2);
        due.is("three days", x.pass(3), 3);
        due.is("the day", x.count(2), 3);
        due.is("calls today", x.interviewerOf(0, 2), 0);
        due.is("all calls", x.interviewerOf(0, 3), 2);
        due.is("a call is possible again", x.possible(0, 1), 1);
        due.is("one day more", x.pass(1), 4);
        due.is("the day of the appointment", x.next(0, 2), 1);
        due.is("one day more", x.pass(1), 5);
        due.is("it is over", x.addresses(6), 2);
    }

    private static void setsASetting(Due due) {
        FieldQuotas x = Made.houses(1);
        due.is("calls in vain", x.set(0, 2), 4);
        due.is("days between calls", x.set(1, 2), 1);
        due.is("the first in vain", x.call(0, 0, 0, 0), 0);
        x.pass(1);
        due.is("after one day", x.call(0, 0, 1, 0), -2);
        x.pass(1);
        due.is("after two days, the second in vain", x.call(0, 0, 1, 0), 3);
    }

    // ---- what there is

    private static void ofAnAddress(Due due) {
        FieldQuotas x = Made.field();
        x.call(0, 3, 2, 0);
        x.pass(4);
        x.later(1, 3, 0, 7, 1);
        int[] open = {3, 0, 2, 1, 4, 0, 7, 1, -4, 1};
        for (int what = 0; what < open.length; what++) {
            due.is("open: " + what, x.addressOf(3, what), open[what]);
        }
        x.pass(3);
        x.call(0, 3, 1, 4);
        int[] interviewed = {3, 1, 3, 1, 7, 1, -4, -4, 2, 0};
        for (int what = 0; what < interviewed.length; what++) {
            due.is("interviewed: " + what, x.addressOf(3, what), interviewed[what]);
        }
    }

    private static void ofAnInterviewer(Due due) {
        FieldQuotas x = Made.housesIn(0, 0, 1, 2, 3);
        x.interviewer(3, 7);
        x.call(1, 0, 0, 0);
        x.call(1, 2, 0, 2);
        x.pass(1);
        x.call(1, 3, 0, 3);
        x.call(1, 4, 0, 1);
        int[] want = {3, 7, 2, 4, 2, 3};
        for (int what = 0; what < want.length; what++) {
            due.is("number " + what, x.interviewerOf(1, what), want[what]);
        }
    }

    private static void ofACell(Due due) {
        FieldQuotas x = Made.housesIn(1, 1, 1);
        x.quota(1, 2, 9);
        x.population(1, 2, 50);
        for (int i = 0; i < 3; i++) {
            x.call(0, i, 0, i < 2 ? 4 : 3);
        }
        int[] want = {9, 2, 7, 50, Float.floatToIntBits(25f)};
        for (int what = 0; what < want.length; what++) {
            due.is("number " + what, x.cellOf(1, 2, what), want[what]);
        }
    }

    private static void ofSomeKind(Due due) {
        FieldQuotas x = thursday();
        x.quota(0, 0, 0);
        x.call(0, 0, 0, 2);
        x.set(0, 1);
        x.call(0, 1, 1, 0);
        int[] want = {1 << 2 | 1 << 3 | 1 << 6 | 1 << 7, 1 << 5, 1 << 4, 1 << 1, 1,
            1 << 2 | 1 << 3 | 1 << 6, 1 << 6, 0};
        for (int what = 0; what < want.length; what++) {
            due.is("kind " + what, x.addresses(what), want[what]);
        }
        x.address(0);
        due.is("kind 7 of a new one", x.addresses(7), 1 << 8);
    }

    private static void numbers(Due due) {
        FieldQuotas x = thursday();
        x.set(0, 7);
        x.set(1, 8);
        Due.write(x, "day 1");
        int[] want = {8, 2, 3, 7, 2, 1, 23, 3, 4, 5, 7, 8};
        for (int what = 0; what < want.length; what++) {
            due.is("number " + what, x.count(what), want[what]);
        }
    }

    // ---- what should be done

    private static void nextCalls(Due due) {
        FieldQuotas x = thursday();
        int[] order = {6, 0};
        for (int address : order) {
            due.is("in the morning", x.next(0, 0), address);
            due.is("it is possible", x.call(0, address, 0, 1), 2);
        }
        due.is("none in the morning", x.next(0, 0), -4);
        due.is("in the afternoon", x.next(0, 1), 2);
        due.is("in the evening", x.next(0, 2), 1);
        due.is("none of the other one", x.next(1, 2), -4);
    }

    private static void possibleNow(Due due) {
        FieldQuotas x = thursday();
        for (int time = 0; time <= 2; time++) {
            due.is("at the time " + time, x.possible(0, time), ON_THURSDAY[time]);
            due.is("of one whose load is reached", x.possible(1, time), 0);
        }
    }

    private static void howManyDays(Due due) {
        FieldQuotas x = thursday();
        // 4, 3, 4, 4, 4 and 3 calls; 9 can be made today, and 10 on each day behind it.
        due.is("22 calls", x.daysLeft(), 3);
        x.call(0, 0, 0, 1);
        due.is("18 calls, 8 of them today", x.daysLeft(), 2);
        x.later(0, 6, 0, 9, 0);
        due.is("18 calls, 7 of them today", x.daysLeft(), 3);
    }

    private static void rateAsFloat(Due due) {
        FieldQuotas x = Made.houses(8);
        float[] rates = {1f, 0.5f, 1f / 3f, 0.25f, 0.2f, 1f / 6f, 1f / 7f};
        for (int i = 0; i < rates.length; i++) {
            x.call(0, i, 0, i == 0 ? 2 : 1);
            due.holds("1 of " + (i + 1), Float.intBitsToFloat(x.rateBits()) == rates[i]);
        }
    }

    private static void bitsOfTheRate(Due due) {
        FieldQuotas x = Made.houses(3);
        x.call(0, 0, 0, 1);
        due.is("0 of 1", x.rateBits(), 0);
        x.call(0, 1, 0, 2);
        due.is("1 of 2", x.rateBits(), 0x3F000000);
        x.call(0, 2, 0, 2);
        due.is("2 of 3", x.rateBits(), 0x3F2AAAAB);
        FieldQuotas y = Made.houses(1);
        y.call(0, 0, 0, 2);
        due.is("1 of 1", y.rateBits(), 0x3F800000);
    }

    private static void partAsFloat(Due due) {
        FieldQuotas x = Made.housesIn(0, 1, 2, 2);
        x.population(0, 0, 10);
        x.population(1, 1, 20);
        x.population(2, 2, 50);
        x.call(0, 0, 0, 2);
        x.call(0, 1, 0, 3);
        x.call(0, 2, 0, 4);
        x.call(0, 3, 0, 4);
        float[] parts = {0.125f, 0.25f, 0.625f};
        for (int group = 0; group <= 2; group++) {
            float part = Float.intBitsToFloat(x.partBits(group));
            due.holds("the group " + group, part == parts[group]);
        }
    }

    /** 235 by 7, times 7, is 235.00002 among floats, so the last of the bits is another one. */
    private static void allAsFloats(Due due) {
        FieldQuotas x = Made.housesIn(0, 0, 0, 0, 0, 0, 0, 1);
        x.quota(0, 0, 20);
        x.population(0, 0, 235);
        x.population(1, 1, 22);
        for (int i = 0; i < 8; i++) {
            x.call(0, i, 0, i < 7 ? 2 : 3);
        }
        due.is("the part of the group 0", x.partBits(0), 1063917035);
        due.is("not of 235 and 22", Float.floatToIntBits(235f / 257f), 1063917034);
    }

    private static void bitsOfTheParts(Due due) {
        FieldQuotas x = Made.housesIn(0, 3);
        x.call(0, 0, 0, 2);
        due.is("the group 0 alone", x.partBits(0), 0x3F800000);
        due.is("none of the group 1", x.partBits(1), 0);
        x.call(0, 1, 0, 3);
        due.is("the group 0, half of it", x.partBits(0), 0x3F000000);
        due.is("the group 1, half of it", x.partBits(1), 0x3F000000);
        x.population(3, 1, 300);
        due.is("the group 1, three of four", x.partBits(1), 0x3F400000);
    }

    // ---- texts

    private static void appends(Due due) {
        FieldQuotas x = new FieldQuotas();
        String text = "day 12;";
        for (int i = 0; i < text.length(); i++) {
            due.is("the length", x.type(text.charAt(i)), i + 1);
        }
        due.is("behind those ahead", x.play(), 1);
        due.is("the day", x.count(2), 12);
        Due.rewrite(x, "day 21;");
        x.play();
        due.is("the day", x.count(2), 33);
    }

    private static void aboutTheFault(Due due) {
        FieldQuotas x = Made.fieldWith("day 2;quota 0 0 7;none 0 9 0;");
        due.is("its position", x.fault(0), 18);
        due.is("its reason", x.fault(1), 2);
        due.is("nothing is done", x.count(2), 0);
        due.is("the quota stays", x.cellOf(0, 0, 0), 2);
    }

    private static void faultIsReturned(Due due) {
        String[] texts = {"x", "day 1;x", "day 1;day 0;", "day 1;day 1;later 0 0 0 1 0;"};
        int[] positions = {0, 6, 6, 12};
        int[] reasons = {1, 1, 2, 3};
        for (int i = 0; i < texts.length; i++) {
            FieldQuotas x = Made.fieldWith(texts[i]);
            due.is("the position in " + texts[i], x.fault(0), positions[i]);
            due.is("the reason in " + texts[i], x.fault(1), reasons[i]);
        }
    }
}
