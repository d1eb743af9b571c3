/** The sentences of "Changes and errors": the history, several errors, calls that are refused. */
final class ChangeBoundaries {
    private ChangeBoundaries() {
    }

    static void tell(Sentences all) {
        String part = "Changes and errors";
        all.of(part, "The changes are the calls of address, interviewer, quota, population, call,"
                + " later, pass, set and play that return no error.", ChangeBoundaries::changes);
        all.of(part, "that return no error", ChangeBoundaries::noChanges);
        all.of(part, "A history of at most 4 states is kept", ChangeBoundaries::atMost4);
        all.of(part, "each change records everything before it but the text",
                ChangeBoundaries::everythingButTheText);
        all.of(part, "and if there are 5 states then, the oldest one is dropped",
                ChangeBoundaries::oldestIsDropped);
        all.of(part, "If several errors apply to a call, INVALID_ARGUMENT is returned rather than"
                + " NOT_POSSIBLE", ChangeBoundaries::invalidRatherThanNotPossible);
        all.of(part, "NOT_POSSIBLE rather than LIMIT_REACHED, and LIMIT_REACHED rather than"
                + " NOT_FOUND", ChangeBoundaries::otherErrors);
        all.of(part, "A call that returns an error changes nothing.",
                ChangeBoundaries::refusedCalls);
        all.of(part, "If there is no address or interviewer with a certain number, this is"
                + " INVALID_ARGUMENT.", ChangeBoundaries::noSuchNumber);
        all.of(part, "The constants: INVALID_ARGUMENT = -1: An argument is out of its range, or"
                + " there is no such address or interviewer.", ChangeBoundaries::invalidArgument);
        all.of(part, "NOT_POSSIBLE = -2: The call is not possible in the present state.",
                ChangeBoundaries::notPossible);
        all.of(part, "LIMIT_REACHED = -3: A fixed limit has been reached.",
                ChangeBoundaries::limitReached);
        all.of(part, "NOT_FOUND = -4: There is no such value.", ChangeBoundaries::notFound);
    }

    /** A state in which each of the changes is possible, with three states in the history. */
    private static FieldQuotas busy() {
        FieldQuotas x = Made.field();
        for (int i = 0; i < 3; i++) {
            x.undo();
        }
        x.address(0);
        x.later(0, 1, 2, 7, 2);
        Due.write(x, "day 1;");
        return x;
    }

    private static final Due.Call[] CHANGES = {x -> x.address(3), x -> x.interviewer(3, 1),
        x -> x.quota(0, 0, 2), x -> x.population(0, 0, 100), x -> x.call(0, 0, 0, 0),
        x -> x.call(0, 0, 0, 1), x -> x.call(0, 0, 0, 4), x -> x.later(0, 0, 0, 1, 0),
        x -> x.pass(1), x -> x.set(0, 4), x -> x.set(1, 1), x -> x.play()};

    private static void changes(Due due) {
        for (int i = 0; i < CHANGES.length; i++) {
            FieldQuotas x = busy();
            due.is("states ahead of the change " + i, x.count(8), 3);
            due.holds("the change " + i, CHANGES[i].on(x) >= 0);
            due.is("states behind the change " + i, x.count(8), 4);
            due.is("undo of the change " + i, x.undo(), 3);
            due.same("all stands as before the change " + i, Snapshot.of(x), Snapshot.of(busy()));
        }
        FieldQuotas y = busy();
        y.clearText();
        due.is("a play of no commands", y.play(), 0);
        due.is("is a change too", y.count(8), 4);
    }

    private static void noChanges(Due due) {
        FieldQuotas x = busy();
        int[] answers = {x.type(65), x.clearText(), x.fault(0), x.addressOf(0, 0), x.next(0, 0),
            x.interviewerOf(0, 0), x.cellOf(0, 0, 0), x.addresses(0), x.count(0), x.possible(0, 0),
            x.daysLeft(), x.rateBits(), x.partBits(0)};
        due.is("the calls that are none: " + answers.length, x.count(8), 3);
        int[] errors = {x.address(4), x.interviewer(0, 0), x.quota(0, 0, 21), x.call(0, 1, 0, 0),
            x.population(0, 0, -1), x.later(0, 0, 0, 0, 0), x.pass(100), x.set(0, 0), x.type(0)};
        for (int error : errors) {
            due.holds("an error", error < 0);
        }
        due.is("the calls that return errors", x.count(8), 3);
        x.type(65);
        due.is("a play with a fault", x.play(), -2);
        due.is("is none either", x.count(8), 3);
    }

    private static void atMost4(Due due) {
        FieldQuotas x = new FieldQuotas();
        due.is("none at first", x.count(8), 0);
        for (int change = 1; change <= 30; change++) {
            x.pass(1);
            due.is("states behind the change " + change, x.count(8), Math.min(change, 4));
        }
        for (int left = 3; left >= 0; left--) {
            due.is("undo", x.undo(), left);
            due.is("states behind it", x.count(8), left);
        }
        due.is("one undo more", x.undo(), -2);
        due.is("none is left", x.count(8), 0);
    }

    private static FieldQuotas withSettings() {
        FieldQuotas x = Made.field();
        x.call(1, 3, 0, 2);
        x.later(0, 1, 0, 1, 2);
        x.set(0, 2);
        x.set(1, 0);
        return x;
    }

    private static void everythingButTheText(Due due) {
        FieldQuotas x = withSettings();
        Due.write(x, "day 7;");
        due.is("a change", x.play(), 1);
        Due.rewrite(x, "address 1;quota 3 0 9;refuse 0 0 1;take 1 1 1 2;later 0 2 2 9 1;day 3;");
        due.is("a change of much", x.play(), 6);
        x.set(0, 9);
        x.set(1, 9);
        Due.rewrite(x, "none 0 4 0;day");
        for (int left = 3; left >= 1; left--) {
            due.is("undo", x.undo(), left);
            due.is("the text stays", x.count(9), 14);
        }
        due.is("the day of the state between", x.count(2), 7);
        due.is("the characters of the text stay", x.fault(0) * 10 + x.fault(1), 2);
        due.is("undo", x.undo(), 0);
        x.clearText();
        FieldQuotas y = withSettings();
        for (int i = 0; i < 4; i++) {
            y.pass(1);
        }
        for (int i = 0; i < 4; i++) {
            y.undo();
        }
        due.same("everything else is as before", Snapshot.of(x), Snapshot.of(y));
    }

    private static void oldestIsDropped(Due due) {
        for (int changes = 5; changes <= 16; changes++) {
            FieldQuotas x = new FieldQuotas();
            for (int i = 0; i < changes; i++) {
                x.pass(1 + i);
            }
            for (int i = changes - 1; i >= changes - 4; i--) {
                x.undo();
                due.is("the day of the state " + i, x.count(2), i * (i + 1) / 2);
            }
            due.is("the states ahead of these are dropped", x.undo(), -2);
        }
        FieldQuotas y = new FieldQuotas();
        for (int i = 0; i < 4; i++) {
            y.pass(1);
        }
        y.undo();
        y.pass(50);
        for (int day : new int[] {3, 2, 1, 0}) {
            y.undo();
            due.is("a state that was undone makes room", y.count(2), day);
        }
    }

    private static void invalidRatherThanNotPossible(Due due) {
        FieldQuotas x = Made.field();
        x.call(0, 0, 0, 1);
        due.is("call at an address with an outcome", x.call(0, 0, 1, 0), -2);
        due.is("with a wrong interviewer", x.call(2, 0, 1, 0), -1);
        due.is("with a wrong time", x.call(0, 0, 3, 0), -1);
        due.is("with a wrong what", x.call(0, 0, 1, 5), -1);
        due.is("later there", x.later(0, 0, 1, 1, 0), -2);
        due.is("with a wrong interviewer", x.later(-1, 0, 1, 1, 0), -1);
        due.is("with a wrong time", x.later(0, 0, -1, 1, 0), -1);
        due.is("with a wrong day", x.later(0, 0, 1, 1000, 0), -1);
        due.is("with a day below 0, which is not later either", x.later(0, 0, 1, -1, 0), -1);
        due.is("with a wrong time of the appointment", x.later(0, 0, 1, 1, 3), -1);
        due.is("an open address, today, with a wrong time", x.later(0, 1, 1, 0, 3), -1);
        due.is("a wrong address, today", x.later(0, 4, 1, 0, 0), -1);
    }

    private static void otherErrors(Due due) {
        FieldQuotas x = Made.full();
        Made.passTo(x, 999);
        due.is("address: the limit and a wrong area", x.address(4), -1);
        due.is("interviewer: the limit and a wrong load", x.interviewer(0, 10), -1);
        due.is("pass: the limit and wrong days", x.pass(100), -1);
        due.is("pass: the limit and 0 days", x.pass(0), -1);
        for (int i = 0; i < 80; i++) {
            x.type(32);
        }
        due.is("type: the limit and a wrong character", x.type(127), -1);
        due.is("addressOf: not found and a wrong address", x.addressOf(24, 4), -1);
        due.is("cellOf: not found and a wrong group", x.cellOf(0, 3, 4), -1);
        due.is("partBits: not found and a wrong group", x.partBits(3), -1);
        due.is("fault: a wrong what", x.fault(2), -1);
        x.clearText();
        due.is("fault: not found and a wrong what", x.fault(2), -1);
        FieldQuotas y = Made.houses(0);
        due.is("next: not found and a wrong time", y.next(0, 3), -1);
        due.is("next: not found and a wrong interviewer", y.next(1, 0), -1);
    }

    private static void refusedCalls(Due due) {
        Due.State full = () -> {
            FieldQuotas x = Made.full();
            Made.passTo(x, 999);
            x.call(0, 0, 0, 1);
            x.call(1, 1, 0, 0);
            x.call(2, 2, 0, 3);
            for (int i = 0; i < 8; i++) {
                Due.write(x, "address 1;");
            }
            return x;
        };
        due.refuses("address", -3, full, x -> x.address(0));
        due.refuses("interviewer", -3, full, x -> x.interviewer(0, 1));
        due.refuses("quota", -1, full, x -> x.quota(0, 0, 21));
        due.refuses("population", -1, full, x -> x.population(0, 0, 10000));
        due.refuses("call", -2, full, x -> x.call(0, 0, 1, 0));
        due.refuses("call with an interview", -2, full, x -> x.call(0, 1, 0, 2));
        due.refuses("call", -1, full, x -> x.call(0, 3, 0, 5));
        due.refuses("later", -2, full, x -> x.later(0, 3, 0, 999, 0));
        due.refuses("later", -1, full, x -> x.later(0, 3, 0, 1000, 0));
        due.refuses("pass", -3, full, x -> x.pass(1));
        due.refuses("set", -1, full, x -> x.set(0, 0));
        due.refuses("type", -3, full, x -> x.type(65));
        due.refuses("play", -2, full, x -> x.play());
        due.refuses("undo", -2, FieldQuotas::new, x -> x.undo());
        due.refuses("play", -2, () -> Made.fieldWith("day 1;address 0;quota 0 0 0;none 9 0 0;"),
                x -> x.play());
    }

    private static void noSuchNumber(Due due) {
        for (int many = 0; many <= 3; many++) {
            FieldQuotas x = Made.field();
            for (int i = 0; i < many; i++) {
                x.address(0);
                x.interviewer(0, 9);
            }
            int address = x.count(0);
            int interviewer = x.count(1);
            due.is("addressOf", x.addressOf(address, 0), -1);
            due.is("addressOf 9, which could be not found", x.addressOf(address, 9), -1);
            due.is("call of an interviewer", x.call(interviewer, 0, 0, 0), -1);
            due.is("call at an address", x.call(0, address, 0, 0), -1);
            due.is("later of an interviewer", x.later(interviewer, 0, 0, 1, 0), -1);
            due.is("later at an address", x.later(0, address, 0, 1, 0), -1);
            due.is("interviewerOf", x.interviewerOf(interviewer, 0), -1);
            due.is("next", x.next(interviewer, 0), -1);
            due.is("possible", x.possible(interviewer, 0), -1);
            due.is("the last address", x.addressOf(address - 1, 1), 0);
            due.is("the last interviewer", x.interviewerOf(interviewer - 1, 2), 0);
        }
        FieldQuotas y = new FieldQuotas();
        y.address(0);
        y.interviewer(0, 1);
        y.undo();
        y.undo();
        due.is("an address that was undone", y.addressOf(0, 0), -1);
        due.is("an interviewer who was undone", y.interviewerOf(0, 0), -1);
    }

    // ---- the constants

    private static void invalidArgument(Due due) {
        due.is("the constant", FieldQuotas.INVALID_ARGUMENT, -1);
        FieldQuotas x = Made.field();
        int[] answers = {x.address(4), x.interviewer(0, 10), x.quota(0, 0, 21),
            x.population(0, 0, 10000), x.call(2, 0, 0, 0), x.call(0, 4, 0, 0),
            x.later(0, 0, 0, 1000, 0), x.pass(0), x.set(2, 1), x.addressOf(4, 0),
            x.interviewerOf(2, 0), x.cellOf(0, 0, 5), x.addresses(8), x.count(12), x.next(2, 0),
            x.possible(0, 3), x.partBits(3), x.type(127), x.fault(2)};
        for (int i = 0; i < answers.length; i++) {
            due.is("the answer " + i, answers[i], -1);
        }
    }

    private static void notPossible(Due due) {
        due.is("the constant", FieldQuotas.NOT_POSSIBLE, -2);
        FieldQuotas x = Made.fieldWith("x");
        x.call(0, 0, 0, 0);
        int[] answers = {x.call(0, 0, 0, 0), x.later(0, 1, 0, 0, 0), x.play(),
            new FieldQuotas().undo()};
        for (int i = 0; i < answers.length; i++) {
            due.is("the answer " + i, answers[i], -2);
        }
        x.pass(1);
        due.is("in another state", x.call(0, 0, 1, 0), 0);
        due.is("in another state", x.later(0, 1, 0, 2, 0), 1);
        x.clearText();
        due.is("in another state", x.play(), 0);
    }

    private static void limitReached(Due due) {
        due.is("the constant", FieldQuotas.LIMIT_REACHED, -3);
        FieldQuotas x = Made.full();
        Made.passTo(x, 999);
        for (int i = 0; i < 80; i++) {
            x.type(32);
        }
        int[] answers = {x.address(0), x.interviewer(0, 1), x.pass(1), x.type(32)};
        for (int i = 0; i < answers.length; i++) {
            due.is("the answer " + i, answers[i], -3);
        }
        int[] reached = {x.count(0), x.count(1), x.count(2), x.count(9)};
        int[] limits = {24, 5, 999, 80};
        for (int i = 0; i < limits.length; i++) {
            due.is("the limit " + i, reached[i], limits[i]);
        }
    }

    private static void notFound(Due due) {
        due.is("the constant", FieldQuotas.NOT_FOUND, -4);
        FieldQuotas x = new FieldQuotas();
        x.address(0);
        int[] answers = {x.daysLeft(), x.rateBits(), x.partBits(0), x.cellOf(0, 0, 4), x.fault(0),
            x.fault(1), x.addressOf(0, 4), x.addressOf(0, 9), Made.houses(0).next(0, 0)};
        for (int i = 0; i < answers.length; i++) {
            due.is("the answer " + i, answers[i], -4);
        }
    }
}
