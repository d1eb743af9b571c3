/** Promises 15 to 20: the next call, what is left, rates, parts, undo. */
public final class PlanTest {
    private static final Due due = new Due();

    public static void main(String[] args) {
        nextByAppointments();
        nextByAreas();
        nextByCalls();
        possible();
        wrongNext();
        daysLeft();
        daysLeftOfToday();
        rate();
        part();
        partOfMany();
        undo();
        undoRestoresAll();
        due.finish();
    }

    /** An appointment comes first even in a far area with full quotas and with more calls. */
    private static void nextByAppointments() {
        FieldQuotas x = new FieldQuotas();
        x.interviewer(0, 9);
        for (int area : new int[] {0, 0, 1, 1}) {
            x.address(area);
        }
        x.later(0, 1, 0, 1, 0);
        x.later(0, 3, 0, 2, 1);
        x.later(0, 2, 0, 2, 2);
        for (int group = 0; group < 3; group++) {
            x.quota(1, group, 0);
        }
        due.is("15: no appointment yet", x.next(0, 1), 0);
        x.pass(2);
        due.is("15: now at this time", x.next(0, 1), 3);
        due.is("15: now at this time", x.next(0, 2), 2);
        due.is("15: one that is over", x.next(0, 0), 1);
        x.call(0, 1, 0, 1);
        due.is("15: none", x.next(0, 0), 0);
        x.call(0, 0, 0, 1);
        due.is("15: not at other times", x.next(0, 0), -4);
        x.pass(1);
        due.is("15: two that are over", x.next(0, 0), 2);
    }

    private static void nextByAreas() {
        FieldQuotas x = new FieldQuotas();
        x.interviewer(2, 9);
        for (int area : new int[] {0, 1, 2, 2}) {
            x.address(area);
        }
        for (int group = 0; group < 3; group++) {
            x.quota(2, group, 0);
            x.quota(0, group, 0);
        }
        x.call(0, 3, 2, 0);
        x.call(0, 1, 2, 0);
        x.pass(1);
        due.is("15: the own area is ahead of open quotas", x.next(0, 0), 2);
        x.call(0, 2, 0, 1);
        due.is("15: the own area is ahead of fewer calls", x.next(0, 0), 3);
        x.call(0, 3, 0, 1);
        due.is("15: open quotas are ahead of fewer calls", x.next(0, 0), 1);
        x.quota(1, 0, 0);
        x.quota(1, 1, 0);
        due.is("15: a quota of any group", x.next(0, 0), 1);
        x.quota(1, 2, 0);
        due.is("15: all quotas are full", x.next(0, 0), 0);
        x.quota(1, 0, 1);
        x.address(1);
        x.call(0, 4, 0, 2);
        due.is("15: a quota filled by an interview", x.next(0, 0), 0);
    }

    private static void nextByCalls() {
        FieldQuotas x = new FieldQuotas();
        x.interviewer(0, 9);
        for (int i = 0; i < 3; i++) {
            x.address(0);
        }
        x.set(1, 0);
        due.is("15: the lower number", x.next(0, 0), 0);
        x.call(0, 0, 0, 0);
        due.is("15: fewer calls", x.next(0, 1), 1);
        x.call(0, 1, 0, 0);
        x.call(0, 2, 0, 0);
        x.call(0, 0, 1, 0);
        due.is("15: fewer calls", x.next(0, 2), 1);
        due.is("15: not at the same time", x.next(0, 0), 0);
        x.call(0, 1, 1, 1);
        x.call(0, 2, 1, 1);
        due.is("15: what is left", x.next(0, 2), 0);
        due.is("15: nothing at this time", x.next(0, 1), -4);
    }

    private static void possible() {
        FieldQuotas x = new FieldQuotas();
        due.is("16: no interviewer", x.possible(0, 0), -1);
        x.interviewer(0, 3);
        x.interviewer(1, 9);
        due.is("16: no address", x.possible(0, 0), 0);
        for (int i = 0; i < 24; i++) {
            x.address(i % 4);
        }
        int all = (1 << 24) - 1;
        due.is("16: all", x.possible(0, 0), all);
        x.call(0, 0, 0, 0);
        x.call(0, 1, 0, 1);
        x.later(1, 23, 0, 1, 2);
        due.is("16: without those", x.possible(0, 1), all - 1 - 2 - (1 << 23));
        x.call(0, 2, 1, 0);
        due.is("16: the load is reached", x.possible(0, 1), 0);
        due.is("16: nothing next", x.next(0, 1), -4);
        due.is("16: for another one", x.possible(1, 2), all - 1 - 2 - 4 - (1 << 23));
        x.pass(1);
        due.is("16: at the time 0", x.possible(0, 0), all - 1 - 2 - (1 << 23));
        due.is("16: at the time 1", x.possible(0, 1), all - 2 - 4 - (1 << 23));
        due.is("16: at the time 2", x.possible(0, 2), all - 2);
    }

    private static void wrongNext() {
        FieldQuotas x = new FieldQuotas();
        due.is("15: no interviewer", x.next(0, 0), -1);
        x.interviewer(0, 1);
        due.is("15: no address", x.next(0, 0), -4);
        due.is("15: interviewer 1", x.next(1, 0), -1);
        due.is("15: interviewer -1", x.next(-1, 0), -1);
        due.is("15: time -1", x.next(0, -1), -1);
        due.is("15: time 3", x.next(0, 3), -1);
        due.is("16: interviewer 1", x.possible(1, 0), -1);
        due.is("16: interviewer -1", x.possible(-1, 0), -1);
        due.is("16: time -1", x.possible(0, -1), -1);
        due.is("16: time 3", x.possible(0, 3), -1);
    }

    private static void daysLeft() {
        FieldQuotas x = new FieldQuotas();
        due.is("17: nothing is left", x.daysLeft(), 0);
        x.address(0);
        due.is("17: no interviewer", x.daysLeft(), -4);
        x.interviewer(3, 3);
        due.is("17: 4 by 3", x.daysLeft(), 2);
        x.interviewer(3, 1);
        due.is("17: 4 by 4", x.daysLeft(), 1);
        x.address(1);
        due.is("17: 8 by 4", x.daysLeft(), 2);
        x.set(0, 9);
        due.is("17: 18 by 4", x.daysLeft(), 5);
        x.set(0, 1);
        due.is("17: 2 by 4", x.daysLeft(), 1);
        x.call(0, 0, 0, 0);
        x.call(0, 1, 0, 1);
        due.is("17: all have an outcome", x.daysLeft(), 0);
        FieldQuotas y = new FieldQuotas();
        y.interviewer(0, 1);
        for (int i = 0; i < 24; i++) {
            y.address(0);
        }
        y.set(0, 9);
        due.is("17: 216 by 1", y.daysLeft(), 216);
    }

    private static void daysLeftOfToday() {
        FieldQuotas x = new FieldQuotas();
        x.interviewer(0, 2);
        x.address(0);
        x.address(0);
        x.call(0, 0, 0, 0);
        due.is("17: 7 calls, 1 of them today, 2 a day", x.daysLeft(), 4);
        x.later(0, 1, 0, 3, 0);
        due.is("17: 7 calls, none of them today", x.daysLeft(), 5);
        x.set(0, 1);
        due.is("17: at least 1 of each", x.daysLeft(), 2);
        x.pass(1);
        due.is("17: on a new day", x.daysLeft(), 1);
    }

    private static void rate() {
        FieldQuotas x = new FieldQuotas();
        x.interviewer(0, 9);
        for (int i = 0; i < 9; i++) {
            x.address(i % 3);
        }
        due.is("18: no outcome", x.rateBits(), -4);
        x.later(0, 7, 0, 5, 0);
        due.is("18: still none", x.rateBits(), -4);
        int[] what = {1, 2, 3, 1, 4, 1, 2};
        float[] interviewed = {0f, 1f, 2f, 2f, 3f, 3f, 4f};
        for (int i = 0; i < what.length; i++) {
            x.call(0, i, 0, what[i]);
            due.is("18: after " + (i + 1), x.rateBits(),
                    Float.floatToIntBits(interviewed[i] / (i + 1f)));
        }
        x.quota(2, 0, 0);
        due.is("18: not wanted", x.call(0, 8, 0, 2), 4);
        due.is("18: counts too", x.rateBits(), Float.floatToIntBits(0.5f));
    }

    private static void part() {
        FieldQuotas x = new FieldQuotas();
        due.is("19: no interviews", x.partBits(0), -4);
        due.is("19: group -1", x.partBits(-1), -1);
        due.is("19: group 3", x.partBits(3), -1);
        x.interviewer(0, 9);
        for (int i = 0; i < 5; i++) {
            x.address(i % 4);
        }
        x.call(0, 0, 0, 2);
        due.is("19: all of the group 0", x.partBits(0), Float.floatToIntBits(1f));
        due.is("19: none of the group 1", x.partBits(1), 0);
        x.population(0, 0, 0);
        due.is("19: the sum is 0", x.partBits(0), -4);
        due.is("19: wrong group", x.partBits(3), -1);
        x.population(0, 0, 300);
        x.call(0, 1, 0, 3);
        due.is("19: three of four", x.partBits(0), Float.floatToIntBits(0.75f));
        due.is("19: one of four", x.partBits(1), Float.floatToIntBits(0.25f));
        x.call(0, 4, 0, 2);
        due.is("19: by populations", x.partBits(0), Float.floatToIntBits(0.75f));
    }

    /** The sums are rounded at each step, so their order shows in the bits. */
    private static void partOfMany() {
        int seed = 1;
        for (int round = 0; round < 200; round++) {
            FieldQuotas x = new FieldQuotas();
            int[] many = new int[12];
            int[] people = new int[12];
            for (int i = 0; i < 5; i++) {
                x.interviewer(i % 4, 9);
            }
            for (int i = 0; i < 24; i++) {
                seed = seed * 1103515245 + 12345;
                int cell = (seed >>> 16) % 12;
                x.quota(cell / 3, cell % 3, 20);
                x.address(cell / 3);
                if (x.call(i % 5, i, 0, 2 + cell % 3) == 1) {
                    many[cell]++;
                }
            }
            for (int cell = 0; cell < 12; cell++) {
                seed = seed * 1103515245 + 12345;
                people[cell] = (seed >>> 16) % 10000;
                x.population(cell / 3, cell % 3, people[cell]);
            }
            for (int group = 0; group < 3; group++) {
                due.is("19: round " + round, x.partBits(group), partOf(many, people, group));
            }
        }
    }

    private static int partOf(int[] many, int[] people, int group) {
        float all = 0f;
        float own = 0f;
        for (int g = 0; g < 3; g++) {
            for (int area = 0; area < 4; area++) {
                int cell = area * 3 + g;
                if (many[cell] > 0) {
                    float weight = (float) people[cell] / (float) many[cell];
                    all += weight * (float) many[cell];
                    own += g == group ? weight * (float) many[cell] : 0f;
                }
            }
        }
        return all == 0f ? -4 : Float.floatToIntBits(own / all);
    }

    private static void undo() {
        FieldQuotas x = new FieldQuotas();
        due.is("20: empty", x.undo(), -2);
        for (int day = 1; day <= 6; day++) {
            x.pass(1);
            due.is("20: states", x.count(8), Math.min(day, 4));
        }
        for (int left = 3; left >= 0; left--) {
            due.is("20: left", x.undo(), left);
            due.is("20: the day", x.count(2), 2 + left);
            due.is("20: states", x.count(8), left);
        }
        due.is("20: empty again", x.undo(), -2);
        due.is("20: the day stays", x.count(2), 2);
        x.pass(1);
        x.address(0);
        due.is("20: one of two", x.undo(), 1);
        x.pass(10);
        due.is("20: a change after it", x.undo(), 1);
        due.is("20: back to it", x.count(2), 3);
        due.is("20: the last one", x.undo(), 0);
        due.is("20: the first day", x.count(2), 2);
        undoAfterMany();
    }

    private static void undoAfterMany() {
        for (int many = 4; many <= 40; many++) {
            FieldQuotas x = new FieldQuotas();
            for (int i = 0; i < many; i++) {
                x.pass(1);
            }
            for (int left = 3; left >= 0; left--) {
                due.is("20: left", x.undo(), left);
                due.is("20: the day after " + many, x.count(2), many - 4 + left);
            }
        }
    }

    private static FieldQuotas busy() {
        FieldQuotas x = new FieldQuotas();
        x.interviewer(0, 9);
        x.interviewer(1, 2);
        for (int i = 0; i < 5; i++) {
            x.address(i % 2);
        }
        x.set(0, 2);
        x.set(1, 0);
        x.population(1, 1, 250);
        x.call(0, 0, 0, 0);
        x.later(0, 1, 0, 1, 0);
        x.call(1, 2, 1, 3);
        x.pass(1);
        return x;
    }

    private static void undoOf(String what, Due.Call change) {
        FieldQuotas x = busy();
        due.holds("20: " + what + " is a change", change.on(x) >= 0);
        due.is("20: undo of " + what, x.undo(), 3);
        // The change has pushed the oldest state out, and all else stands as it was.
        FieldQuotas y = busy();
        y.pass(1);
        y.undo();
        due.same("20: undo of " + what, Snapshot.of(x), Snapshot.of(y));
    }

    private static void undoRestoresAll() {
        undoOf("address", x -> x.address(3));
        undoOf("interviewer", x -> x.interviewer(3, 3));
        undoOf("quota", x -> x.quota(1, 1, 9));
        undoOf("population", x -> x.population(1, 1, 9));
        undoOf("call in vain", x -> x.call(0, 0, 1, 0));
        undoOf("call that is refused", x -> x.call(0, 1, 0, 1));
        undoOf("call with an interview", x -> x.call(1, 3, 0, 4));
        undoOf("later", x -> x.later(0, 1, 0, 9, 0));
        undoOf("pass", x -> x.pass(9));
        undoOf("set 0", x -> x.set(0, 9));
        undoOf("set 1", x -> x.set(1, 9));
        undoOf("play", x -> x.play());
        FieldQuotas x = busy();
        x.pass(1);
        Due.write(x, "day 1;");
        x.undo();
        due.is("20: the text stays", x.count(9), 6);
        x.undo();
        due.is("20: undo twice", x.count(2), 0);
    }
}
