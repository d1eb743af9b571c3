/** The sentences of the promises 1 to 5: a new object, and what there is to do. */
final class SetUpBoundaries {
    private SetUpBoundaries() {
    }

    static void tell(Sentences all) {
        all.of("Promise 1", "Creates a survey without addresses and interviewers, on the day 0.",
                SetUpBoundaries::newObject);
        tellOfAddresses(all);
        tellOfInterviewers(all);
        tellOfQuotas(all);
        tellOfPopulations(all);
    }

    private static void tellOfAddresses(Sentences all) {
        all.of("Promise 2", "area: 0 to 3", SetUpBoundaries::areaOfAddress);
        all.of("Promise 2", "Adds an address, which is open.", SetUpBoundaries::openAddress);
        all.of("Promise 2", "Returns its number", SetUpBoundaries::numberOfAddress);
        all.of("Promise 2", "INVALID_ARGUMENT if area is out of range",
                SetUpBoundaries::wrongAreaOfAddress);
        all.of("Promise 2", "LIMIT_REACHED if there are 24", SetUpBoundaries::thereAre24);
    }

    private static void tellOfInterviewers(Sentences all) {
        all.of("Promise 3", "area: 0 to 3", SetUpBoundaries::areaOfInterviewer);
        all.of("Promise 3", "load: 1 to 9", SetUpBoundaries::load);
        all.of("Promise 3", "Returns the number of the interviewer",
                SetUpBoundaries::numberOfInterviewer);
        all.of("Promise 3", "INVALID_ARGUMENT if an argument is out of range",
                SetUpBoundaries::wrongInterviewer);
        all.of("Promise 3", "LIMIT_REACHED if there are 5", SetUpBoundaries::thereAre5);
    }

    private static void tellOfQuotas(Sentences all) {
        all.of("Promise 4", "(also below the interviews that there are)",
                SetUpBoundaries::belowTheInterviews);
        all.of("Promise 4", "area: 0 to 3", SetUpBoundaries::areaOfQuota);
        all.of("Promise 4", "group: 0 to 2", SetUpBoundaries::groupOfQuota);
        all.of("Promise 4", "many: 0 to 20", SetUpBoundaries::many);
        all.of("Promise 4", "Returns what it was", SetUpBoundaries::quotaBefore);
        all.of("Promise 4", "INVALID_ARGUMENT if an argument is out of range",
                SetUpBoundaries::wrongQuota);
    }

    private static void tellOfPopulations(Sentences all) {
        all.of("Promise 5", "area: 0 to 3", SetUpBoundaries::areaOfPopulation);
        all.of("Promise 5", "group: 0 to 2", SetUpBoundaries::groupOfPopulation);
        all.of("Promise 5", "people: 0 to 9999", SetUpBoundaries::people);
        all.of("Promise 5", "Returns what it was", SetUpBoundaries::populationBefore);
        all.of("Promise 5", "INVALID_ARGUMENT if an argument is out of range",
                SetUpBoundaries::wrongPopulation);
    }

    // ---- a new object

    private static void newObject(Due due) {
        // What one object holds is not in another one.
        Made.outcomes().pass(1);
        FieldQuotas x = new FieldQuotas();
        int[] counts = {0, 0, 0, 0, 0, 0, 24, 0, 0, 0, 4, 1};
        for (int what = 0; what < counts.length; what++) {
            due.is("count " + what, x.count(what), counts[what]);
        }
        for (int what = 0; what <= 7; what++) {
            due.is("addresses " + what, x.addresses(what), 0);
        }
        for (int what = 0; what <= 9; what++) {
            due.is("addressOf " + what, x.addressOf(0, what), -1);
        }
        for (int what = 0; what <= 5; what++) {
            due.is("interviewerOf " + what, x.interviewerOf(0, what), -1);
        }
        int[] cell = {2, 0, 2, 100, -4};
        for (int what = 0; what < cell.length; what++) {
            for (int i = 0; i < 12; i++) {
                due.is("cellOf " + what, x.cellOf(i / 3, i % 3, what), cell[what]);
            }
        }
        newObjectIsEmpty(due, x);
    }

    private static void newObjectIsEmpty(Due due, FieldQuotas x) {
        due.is("call", x.call(0, 0, 0, 0), -1);
        due.is("later", x.later(0, 0, 0, 1, 0), -1);
        due.is("next", x.next(0, 0), -1);
        due.is("possible", x.possible(0, 0), -1);
        due.is("daysLeft", x.daysLeft(), 0);
        due.is("rateBits", x.rateBits(), -4);
        due.is("partBits", x.partBits(0), -4);
        due.is("undo", x.undo(), -2);
        due.is("fault", x.fault(0), -4);
        due.is("clearText", x.clearText(), 0);
        due.is("play", x.play(), 0);
    }

    // ---- address

    private static void areaOfAddress(Due due) {
        FieldQuotas x = new FieldQuotas();
        for (int area = 0; area <= 3; area++) {
            due.is("an address in the area " + area, x.address(area), area);
            due.is("its area", x.addressOf(area, 0), area);
        }
    }

    private static void openAddress(Due due) {
        FieldQuotas x = new FieldQuotas();
        for (int i = 0; i < 24; i++) {
            x.address(i % 4);
            due.is("open ones", x.addresses(0), (1 << i + 1) - 1);
            due.is("without a call", x.addresses(7), (1 << i + 1) - 1);
            due.is("with an appointment", x.addresses(5), 0);
        }
        int[] row = {3, 0, 0, 0, -4, -4, -4, -4, -4, -4};
        for (int what = 0; what < row.length; what++) {
            due.is("the last one " + what, x.addressOf(23, what), row[what]);
        }
    }

    private static void numberOfAddress(Due due) {
        FieldQuotas x = new FieldQuotas();
        for (int i = 0; i < 24; i++) {
            due.is("its number", x.address(0), i);
            due.is("how many there are", x.count(0), i + 1);
        }
        FieldQuotas y = Made.houses(3);
        y.call(0, 2, 0, 1);
        due.is("one with an outcome keeps its number", y.address(0), 3);
        y.undo();
        due.is("a number that was undone comes again", y.address(1), 3);
        due.is("with its own area", y.addressOf(3, 0), 1);
    }

    private static void wrongAreaOfAddress(Due due) {
        due.bounds("area", 0, 3, FieldQuotas::new, (x, n) -> x.address(n));
        due.bounds("area of the 25th", 0, 3, Made::full, (x, n) -> x.address(n));
    }

    private static void thereAre24(Due due) {
        FieldQuotas x = new FieldQuotas();
        for (int i = 0; i < 23; i++) {
            x.address(i % 4);
        }
        due.is("there are 23", x.address(3), 23);
        due.is("there are 24", x.address(3), -3);
        due.is("still", x.address(0), -3);
        x.undo();
        due.is("one was undone", x.address(2), 23);
        due.refuses("address", -3, Made::full, y -> y.address(3));
        FieldQuotas y = Made.full();
        for (int i = 0; i < 24; i++) {
            y.call(i % 5, i, 0, 1);
        }
        due.is("all of them have an outcome", y.address(0), -3);
    }

    // ---- interviewer

    private static void areaOfInterviewer(Due due) {
        FieldQuotas x = new FieldQuotas();
        for (int area = 0; area <= 3; area++) {
            due.is("an interviewer of the area " + area, x.interviewer(area, 1), area);
            due.is("the area", x.interviewerOf(area, 0), area);
        }
    }

    private static void load(Due due) {
        for (int load = 1; load <= 9; load++) {
            FieldQuotas x = new FieldQuotas();
            due.is("an interviewer with the load " + load, x.interviewer(3, load), 0);
            due.is("the load", x.interviewerOf(0, 1), load);
        }
    }

    private static void numberOfInterviewer(Due due) {
        FieldQuotas x = new FieldQuotas();
        for (int i = 0; i < 5; i++) {
            due.is("the number", x.interviewer(0, 1), i);
            due.is("how many there are", x.count(1), i + 1);
        }
        x.undo();
        due.is("a number that was undone comes again", x.interviewer(2, 3), 4);
        due.is("with the own load", x.interviewerOf(4, 1), 3);
    }

    private static FieldQuotas fiveInterviewers() {
        FieldQuotas x = new FieldQuotas();
        for (int i = 0; i < 5; i++) {
            x.interviewer(i % 4, 9);
        }
        return x;
    }

    private static void wrongInterviewer(Due due) {
        Due.State five = SetUpBoundaries::fiveInterviewers;
        due.bounds("area", 0, 3, FieldQuotas::new, (x, n) -> x.interviewer(n, 1));
        due.bounds("load", 1, 9, FieldQuotas::new, (x, n) -> x.interviewer(0, n));
        due.bounds("area of the 6th", 0, 3, five, (x, n) -> x.interviewer(n, 1));
        due.bounds("load of the 6th", 1, 9, five, (x, n) -> x.interviewer(0, n));
    }

    private static void thereAre5(Due due) {
        FieldQuotas x = new FieldQuotas();
        for (int i = 0; i < 4; i++) {
            x.interviewer(3, 9);
        }
        due.is("there are 4", x.interviewer(3, 9), 4);
        due.is("there are 5", x.interviewer(3, 9), -3);
        due.is("still", x.interviewer(0, 1), -3);
        x.undo();
        due.is("one was undone", x.interviewer(1, 2), 4);
        due.refuses("interviewer", -3, SetUpBoundaries::fiveInterviewers, y -> y.interviewer(0, 1));
    }

    // ---- quota

    private static void belowTheInterviews(Due due) {
        FieldQuotas x = Made.houses(4);
        x.call(0, 0, 0, 2);
        x.call(0, 1, 0, 2);
        due.is("one below", x.quota(0, 0, 1), 2);
        due.is("it stands", x.cellOf(0, 0, 0), 1);
        due.is("two below", x.quota(0, 0, 0), 1);
        due.is("the interviews stay", x.cellOf(0, 0, 1), 2);
        due.is("none is wanted", x.cellOf(0, 0, 2), 0);
        due.is("the outcomes stay", x.addresses(1), 3);
        due.is("open ones stay", x.addresses(0), 12);
        due.is("the next interview is not wanted", x.call(0, 2, 0, 2), 4);
        due.is("above again", x.quota(0, 0, 3), 0);
        due.is("one is wanted", x.call(0, 3, 0, 2), 1);
    }

    private static void areaOfQuota(Due due) {
        for (int area = 0; area <= 3; area++) {
            FieldQuotas x = new FieldQuotas();
            due.is("the area " + area, x.quota(area, 1, 7), 2);
            for (int other = 0; other <= 3; other++) {
                due.is("the area " + other, x.cellOf(other, 1, 0), other == area ? 7 : 2);
            }
        }
    }

    private static void groupOfQuota(Due due) {
        for (int group = 0; group <= 2; group++) {
            FieldQuotas x = new FieldQuotas();
            due.is("the group " + group, x.quota(1, group, 7), 2);
            for (int other = 0; other <= 2; other++) {
                due.is("the group " + other, x.cellOf(1, other, 0), other == group ? 7 : 2);
            }
        }
    }

    private static void many(Due due) {
        FieldQuotas x = new FieldQuotas();
        for (int many = 0; many <= 20; many++) {
            due.holds("a quota of " + many, x.quota(2, 2, many) >= 0);
            due.is("it stands", x.cellOf(2, 2, 0), many);
            due.is("so many are wanted", x.cellOf(2, 2, 2), many);
        }
    }

    private static void quotaBefore(Due due) {
        FieldQuotas x = new FieldQuotas();
        due.is("the first", x.quota(3, 0, 20), 2);
        due.is("the most", x.quota(3, 0, 0), 20);
        due.is("the least", x.quota(3, 0, 0), 0);
        due.is("the same", x.quota(3, 0, 5), 0);
        due.is("a wrong one", x.quota(3, 0, 21), -1);
        due.is("the one ahead of it", x.quota(3, 0, 6), 5);
        x.undo();
        due.is("one that was undone", x.quota(3, 0, 7), 5);
        due.is("of another cell", x.quota(3, 1, 7), 2);
    }

    private static void wrongQuota(Due due) {
        due.bounds("area", 0, 3, Made::field, (x, n) -> x.quota(n, 0, 1));
        due.bounds("group", 0, 2, Made::field, (x, n) -> x.quota(0, n, 1));
        due.bounds("group of the area 1", 0, 2, Made::field, (x, n) -> x.quota(1, n, 1));
        due.bounds("group of the area 3", 0, 2, Made::field, (x, n) -> x.quota(3, n, 1));
        due.bounds("many", 0, 20, Made::field, (x, n) -> x.quota(0, 0, n));
    }

    // ---- population

    private static void areaOfPopulation(Due due) {
        for (int area = 0; area <= 3; area++) {
            FieldQuotas x = new FieldQuotas();
            due.is("the area " + area, x.population(area, 1, 7), 100);
            for (int other = 0; other <= 3; other++) {
                due.is("the area " + other, x.cellOf(other, 1, 3), other == area ? 7 : 100);
            }
        }
    }

    private static void groupOfPopulation(Due due) {
        for (int group = 0; group <= 2; group++) {
            FieldQuotas x = new FieldQuotas();
            due.is("the group " + group, x.population(1, group, 7), 100);
            for (int other = 0; other <= 2; other++) {
                due.is("the group " + other, x.cellOf(1, other, 3), other == group ? 7 : 100);
            }
        }
    }

    private static void people(Due due) {
        FieldQuotas x = new FieldQuotas();
        for (int people : new int[] {0, 1, 127, 128, 255, 256, 9998, 9999}) {
            due.holds("a population of " + people, x.population(2, 2, people) >= 0);
            due.is("it stands", x.cellOf(2, 2, 3), people);
        }
    }

    private static void populationBefore(Due due) {
        FieldQuotas x = new FieldQuotas();
        due.is("the first", x.population(3, 0, 9999), 100);
        due.is("the most", x.population(3, 0, 0), 9999);
        due.is("the least", x.population(3, 0, 0), 0);
        due.is("the same", x.population(3, 0, 5), 0);
        due.is("a wrong one", x.population(3, 0, 10000), -1);
        due.is("the one ahead of it", x.population(3, 0, 6), 5);
        x.undo();
        due.is("one that was undone", x.population(3, 0, 7), 5);
        due.is("of another cell", x.population(3, 1, 7), 100);
    }

    private static void wrongPopulation(Due due) {
        due.bounds("area", 0, 3, Made::field, (x, n) -> x.population(n, 0, 1));
        due.bounds("group", 0, 2, Made::field, (x, n) -> x.population(0, n, 1));
        due.bounds("group of the area 1", 0, 2, Made::field, (x, n) -> x.population(1, n, 1));
        due.bounds("group of the area 3", 0, 2, Made::field, (x, n) -> x.population(3, n, 1));
        due.bounds("people", 0, 9999, Made::field, (x, n) -> x.population(0, 0, n));
    }
}
