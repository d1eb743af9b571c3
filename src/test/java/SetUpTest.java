/** Promises 1 to 5, 8 and 9: a new object, what there is to do, days and settings. */
public final class SetUpTest {
    private static final Due due = new Due();

    public static void main(String[] args) {
        newObject();
        addresses();
        interviewers();
        quotas();
        populations();
        days();
        settings();
        due.finish();
    }

    private static void newObject() {
        FieldQuotas x = new FieldQuotas();
        int[] counts = {0, 0, 0, 0, 0, 0, 24, 0, 0, 0, 4, 1};
        for (int what = 0; what < counts.length; what++) {
            due.is("1: count(" + what + ")", x.count(what), counts[what]);
        }
        for (int cell = 0; cell < 12; cell++) {
            due.is("1: quota", x.cellOf(cell / 3, cell % 3, 0), 2);
            due.is("1: interviews", x.cellOf(cell / 3, cell % 3, 1), 0);
            due.is("1: population", x.cellOf(cell / 3, cell % 3, 3), 100);
        }
        due.is("1: open", x.addresses(0), 0);
        due.is("1: no address", x.addressOf(0, 0), -1);
        due.is("1: no interviewer", x.interviewerOf(0, 0), -1);
        due.is("1: daysLeft", x.daysLeft(), 0);
        due.is("1: undo", x.undo(), -2);
        due.is("1: fault", x.fault(0), -4);
    }

    private static void addresses() {
        FieldQuotas x = new FieldQuotas();
        for (int i = 0; i < 24; i++) {
            due.is("2: address " + i, x.address(i % 4), i);
            due.is("2: its area", x.addressOf(i, 0), i % 4);
            due.is("2: it is open", x.addressOf(i, 1), 0);
        }
        due.is("2: all are open", x.addresses(0), (1 << 24) - 1);
        due.is("2: the history", x.count(8), 4);
        Due.State full = SetUpTest::fullOfAddresses;
        due.refuses("2: the 25th", -3, full, y -> y.address(0));
        due.refuses("2: the 25th with a wrong area", -1, full, y -> y.address(4));
        due.refuses("2: area -1", -1, FieldQuotas::new, y -> y.address(-1));
        due.refuses("2: area 4", -1, FieldQuotas::new, y -> y.address(4));
    }

    private static FieldQuotas fullOfAddresses() {
        FieldQuotas x = new FieldQuotas();
        for (int i = 0; i < 24; i++) {
            x.address(i % 4);
        }
        return x;
    }

    private static void interviewers() {
        FieldQuotas x = new FieldQuotas();
        int[] loads = {1, 9, 3, 4, 5};
        for (int i = 0; i < 5; i++) {
            due.is("3: interviewer " + i, x.interviewer(3 - i % 4, loads[i]), i);
            due.is("3: its area", x.interviewerOf(i, 0), 3 - i % 4);
            due.is("3: its load", x.interviewerOf(i, 1), loads[i]);
            due.is("3: how many", x.count(1), i + 1);
        }
        Due.State full = SetUpTest::fullOfInterviewers;
        due.refuses("3: the 6th", -3, full, y -> y.interviewer(0, 1));
        due.refuses("3: the 6th with a wrong area", -1, full, y -> y.interviewer(4, 1));
        due.refuses("3: the 6th with a wrong load", -1, full, y -> y.interviewer(0, 0));
        due.refuses("3: area -1", -1, FieldQuotas::new, y -> y.interviewer(-1, 1));
        due.refuses("3: area 4", -1, FieldQuotas::new, y -> y.interviewer(4, 1));
        due.refuses("3: load 0", -1, FieldQuotas::new, y -> y.interviewer(0, 0));
        due.refuses("3: load 10", -1, FieldQuotas::new, y -> y.interviewer(0, 10));
    }

    private static FieldQuotas fullOfInterviewers() {
        FieldQuotas x = new FieldQuotas();
        for (int i = 0; i < 5; i++) {
            x.interviewer(i % 4, 9);
        }
        return x;
    }

    private static void quotas() {
        FieldQuotas x = new FieldQuotas();
        due.is("4: quota", x.quota(1, 2, 20), 2);
        due.is("4: it stands", x.cellOf(1, 2, 0), 20);
        due.is("4: others do not change", x.cellOf(1, 1, 0) + x.cellOf(2, 0, 0), 4);
        due.is("4: quota 0", x.quota(1, 2, 0), 20);
        due.is("4: the same again is a change", x.quota(1, 2, 0), 0);
        due.is("4: changes", x.count(8), 3);
        due.is("4: the corners", x.quota(0, 0, 7), 2);
        due.is("4: the corners", x.quota(3, 2, 9), 2);
        due.is("4: the corners", x.cellOf(0, 0, 0), 7);
        due.is("4: the corners", x.cellOf(3, 2, 0), 9);
        due.refuses("4: area -1", -1, FieldQuotas::new, y -> y.quota(-1, 0, 1));
        due.refuses("4: area 4", -1, FieldQuotas::new, y -> y.quota(4, 0, 1));
        due.refuses("4: group -1", -1, FieldQuotas::new, y -> y.quota(1, -1, 1));
        due.refuses("4: group 3", -1, FieldQuotas::new, y -> y.quota(0, 3, 1));
        due.refuses("4: many -1", -1, FieldQuotas::new, y -> y.quota(0, 0, -1));
        due.refuses("4: many 21", -1, FieldQuotas::new, y -> y.quota(0, 0, 21));
        quotaBelowInterviews();
    }

    private static void quotaBelowInterviews() {
        FieldQuotas x = new FieldQuotas();
        x.interviewer(0, 9);
        x.address(0);
        x.address(0);
        x.call(0, 0, 0, 2);
        x.call(0, 1, 0, 2);
        due.is("4: below the interviews", x.quota(0, 0, 1), 2);
        due.is("4: the interviews stay", x.cellOf(0, 0, 1), 2);
        due.is("4: nothing is wanted", x.cellOf(0, 0, 2), 0);
        due.is("4: outcomes stay", x.addresses(1), 3);
    }

    private static void populations() {
        FieldQuotas x = new FieldQuotas();
        due.is("5: population", x.population(2, 1, 9999), 100);
        due.is("5: it stands", x.cellOf(2, 1, 3), 9999);
        due.is("5: population 0", x.population(2, 1, 0), 9999);
        due.is("5: population", x.population(2, 1, 5), 0);
        due.is("5: others do not change", x.cellOf(2, 0, 3) + x.cellOf(1, 2, 3), 200);
        due.is("5: the quota does not change", x.cellOf(2, 1, 0), 2);
        due.is("5: changes", x.count(8), 3);
        due.refuses("5: area -1", -1, FieldQuotas::new, y -> y.population(-1, 0, 1));
        due.refuses("5: area 4", -1, FieldQuotas::new, y -> y.population(4, 0, 1));
        due.refuses("5: group -1", -1, FieldQuotas::new, y -> y.population(1, -1, 1));
        due.refuses("5: group 3", -1, FieldQuotas::new, y -> y.population(0, 3, 1));
        due.refuses("5: people -1", -1, FieldQuotas::new, y -> y.population(0, 0, -1));
        due.refuses("5: people 10000", -1, FieldQuotas::new, y -> y.population(0, 0, 10000));
    }

    private static void days() {
        FieldQuotas x = new FieldQuotas();
        x.interviewer(0, 1);
        x.interviewer(1, 1);
        x.address(0);
        x.address(0);
        x.call(0, 0, 0, 0);
        x.call(1, 1, 0, 0);
        due.is("8: calls today", x.interviewerOf(0, 2), 1);
        due.is("8: pass", x.pass(1), 1);
        due.is("8: a new day has no calls", x.interviewerOf(0, 2), 0);
        due.is("8: of any interviewer", x.interviewerOf(1, 2), 0);
        due.is("8: all calls stay", x.interviewerOf(0, 3), 1);
        due.is("8: pass", x.pass(99), 100);
        due.is("8: the day", x.count(2), 100);
        for (int day = 199; day <= 991; day += 99) {
            due.is("8: pass on", x.pass(99), day);
        }
        due.is("8: above 999", x.pass(9), -3);
        due.is("8: up to 999", x.pass(8), 999);
        due.is("8: beyond it", x.pass(1), -3);
        due.is("8: wrong days on the last day", x.pass(100), -1);
        due.refuses("8: on the last day", -3, SetUpTest::lastDay, y -> y.pass(1));
        due.refuses("8: 0 days", -1, SetUpTest::lastDay, y -> y.pass(0));
        due.refuses("8: 100 days", -1, FieldQuotas::new, y -> y.pass(100));
        due.refuses("8: -1 days", -1, FieldQuotas::new, y -> y.pass(-1));
    }

    private static FieldQuotas lastDay() {
        FieldQuotas x = new FieldQuotas();
        for (int i = 0; i < 10; i++) {
            x.pass(99);
        }
        x.pass(9);
        return x;
    }

    private static void settings() {
        FieldQuotas x = new FieldQuotas();
        due.is("9: setting 0", x.set(0, 9), 4);
        due.is("9: setting 0", x.set(0, 1), 9);
        due.is("9: setting 1", x.set(1, 9), 1);
        due.is("9: setting 1", x.set(1, 0), 9);
        due.is("9: they stand", x.count(10) * 10 + x.count(11), 10);
        due.is("9: the same again is a change", x.set(1, 0), 0);
        due.refuses("9: setting 0 to 0", -1, FieldQuotas::new, y -> y.set(0, 0));
        due.refuses("9: setting 0 to 10", -1, FieldQuotas::new, y -> y.set(0, 10));
        due.refuses("9: setting 1 to -1", -1, FieldQuotas::new, y -> y.set(1, -1));
        due.refuses("9: setting 1 to 10", -1, FieldQuotas::new, y -> y.set(1, 10));
        due.refuses("9: setting -1", -1, FieldQuotas::new, y -> y.set(-1, 1));
        due.refuses("9: setting 2", -1, FieldQuotas::new, y -> y.set(2, 1));
        openUntilTheNextCallInVain();
    }

    private static void openUntilTheNextCallInVain() {
        FieldQuotas x = new FieldQuotas();
        x.interviewer(0, 9);
        x.address(0);
        x.set(1, 0);
        x.call(0, 0, 0, 0);
        x.call(0, 0, 1, 0);
        due.is("9: lowered below the calls in vain", x.set(0, 1), 4);
        due.is("9: the address stays open", x.addressOf(0, 1), 0);
        due.is("9: another call than in vain leaves it so", x.later(0, 0, 2, 1, 0), 1);
        x.pass(1);
        due.is("9: until the next call in vain", x.call(0, 0, 0, 0), 3);
        due.is("9: its calls in vain", x.addressOf(0, 3), 3);
    }
}
