/** Promises 21 to 24: the text, its fault, and playing it. */
public final class TextTest {
    private static final Due due = new Due();

    public static void main(String[] args) {
        type();
        clearText();
        goodForms();
        badForms();
        reasons();
        places();
        play();
        playOfEachCommand();
        playIsOneChange();
        due.finish();
    }

    private static FieldQuotas start() {
        FieldQuotas x = new FieldQuotas();
        x.interviewer(0, 9);
        x.address(0);
        x.address(1);
        return x;
    }

    private static void type() {
        FieldQuotas x = new FieldQuotas();
        due.is("21: 31", x.type(31), -1);
        due.is("21: 127", x.type(127), -1);
        due.is("21: -1", x.type(-1), -1);
        due.is("21: 65536 + 65", x.type(65601), -1);
        due.is("21: none of these", x.count(9), 0);
        due.is("21: 32", x.type(32), 1);
        due.is("21: 126", x.type(126), 2);
        for (int length = 3; length <= 80; length++) {
            due.is("21: length", x.type(97), length);
        }
        due.is("21: the 81st", x.type(97), -3);
        due.is("21: the 81st, wrong", x.type(31), -1);
        due.is("21: the length stays", x.count(9), 80);
        due.is("21: no change", x.count(8), 0);
        due.refuses("21: the 81st", -3, TextTest::full, y -> y.type(59));
        due.refuses("21: wrong", -1, TextTest::full, y -> y.type(127));
    }

    private static FieldQuotas full() {
        FieldQuotas x = start();
        for (int i = 0; i < 8; i++) {
            Due.write(x, "address 0;");
        }
        return x;
    }

    private static void clearText() {
        FieldQuotas x = start();
        due.is("22: empty", x.clearText(), 0);
        Due.write(x, "day 1;");
        due.is("22: its length", x.clearText(), 6);
        due.is("22: empty now", x.count(9), 0);
        due.is("22: no change", x.count(8), 3);
        due.is("22: again", x.clearText(), 0);
        due.is("22: nothing is left of it", x.play(), 0);
        FieldQuotas y = full();
        due.is("22: a full one", y.clearText(), 80);
        due.is("22: from the first again", y.type(100), 1);
    }

    private static void faultOf(String text, int place, int reason) {
        FieldQuotas x = start();
        Due.write(x, text);
        due.is("23: place in '" + text + "'", x.fault(0), place);
        due.is("23: reason in '" + text + "'", x.fault(1), reason);
        if (place >= 0) {
            due.refuses("24: play of '" + text + "'", -2, () -> {
                FieldQuotas y = start();
                Due.write(y, text);
                return y;
            }, y -> y.play());
        }
    }

    private static void goodForms() {
        String[] good = {"", "address 0;", "address 000;", "address 003;", "quota 0 0 0;",
            "quota 3 2 20;", "quota 03 002 020;", "none 0 0 0;", "none 00 001 2;",
            "refuse 0 1 2;", "take 0 0 0 0;", "take 0 0 0 2;", "later 0 0 0 1 0;",
            "later 0 1 2 999 2;", "day 1;", "day 99;", "day 001;", "day 1;day 1;",
            "none 0 0 0;day 1;none 0 0 1;day 1;none 0 0 0;day 1;none 0 0 1;"};
        for (String text : good) {
            faultOf(text, -4, -4);
        }
    }

    private static void badForms() {
        String[] bad = {" ", ";", "a", "address", "address ", "address;", "address ;", "address 0",
            "address 0 ", "address 0 ;", "address  0;", " address 0;", "address 0000;",
            "address 1000;", "address -1;", "address +1;", "address a;", "address 0a;",
            "address 0 0;", "Address 0;", "addres 0;", "addresss 0;", "addresses 0;", "address0;",
            "address 0:", "address 0/;", "quota 0 0;", "quota 0 0 0 0;", "quota 0 0 0000;",
            "none 0 0;", "none 0 0 0 0;", "none 0 0  0;", "refuse 0 0;", "refuse 0 0 0 0;",
            "take 0 0 0;", "take 0 0 0 0 0;", "take 0 0 0 0", "later 0 0 0 1;",
            "later 0 0 0 1 0 0;", "later 0 0 0 1000 0;", "day;", "day ;", "day 1 1;", "day 1,",
            "days 1;", "interviewer 0 1;", "population 0 0 1;", "set 0 1;", "none", "9;",
            "day : 1;", "day 1 ;"};
        for (String text : bad) {
            faultOf(text, 0, 1);
        }
    }

    private static void reasons() {
        String[] wrong = {"address 4;", "address 999;", "quota 4 0 0;", "quota 0 3 0;",
            "quota 0 0 21;", "none 1 0 0;", "none 0 2 0;", "none 0 0 3;", "refuse 1 0 0;",
            "refuse 0 2 0;", "refuse 0 0 3;", "take 1 0 0 0;", "take 0 2 0 0;", "take 0 0 3 0;",
            "take 0 0 0 3;", "take 0 0 0 999;", "later 1 0 0 1 0;", "later 0 2 0 1 0;",
            "later 0 0 3 1 0;", "later 0 0 0 1 3;", "day 0;", "day 100;", "day 000;"};
        for (String text : wrong) {
            faultOf(text, 0, 2);
        }
        faultOf("none 0 0 0;none 0 0 1;", 11, 3);
        faultOf("refuse 0 1 0;refuse 0 1 0;", 13, 3);
        faultOf("take 0 0 0 1;take 0 0 1 1;", 13, 3);
        faultOf("later 0 0 0 0 0;", 0, 3);
        faultOf("later 0 0 0 1 0;none 0 0 1;", 16, 3);
        faultOf("day 99;day 99;day 99;day 99;day 99;day 99;day 99;day 99;day 99;day 99;day 10;", 70, 3);
        faultOf("day 99;day 99;day 99;day 99;day 99;day 99;day 99;day 99;day 99;day 99;day 9;", -4, -4);
        FieldQuotas x = start();
        for (int i = 2; i < 24; i++) {
            x.address(0);
        }
        Due.write(x, "address 0;");
        due.is("23: too many addresses", x.fault(1), 3);
        Due.rewrite(x, "address 4;");
        due.is("23: wrong rather than too many", x.fault(1), 2);
    }

    private static void places() {
        faultOf("address 0;x", 10, 1);
        faultOf("address 0;;", 10, 1);
        faultOf("address 0; address 0;", 10, 1);
        faultOf("address 0;address 4;x", 10, 2);
        faultOf("day 1;none 0 2 0;", 6, 2);
        faultOf("address 3;none 0 2 0;", -4, -4);
        faultOf("address 3;none 0 2 0;none 0 2 0;x;", 21, 3);
        faultOf("address 0;day 1;day 0;day", 16, 2);
        FieldQuotas x = start();
        due.is("23: empty", x.fault(0), -4);
        due.is("23: what -1", x.fault(-1), -1);
        due.is("23: what 2", x.fault(2), -1);
        Due.write(x, "x");
        due.is("23: what 2", x.fault(2), -1);
        due.is("23: a fault", x.fault(1), 1);
        Due.rewrite(x, "day 1;");
        due.is("23: a text without the fault", x.fault(1), -4);
        due.is("24: a text without the fault", x.play(), 1);
        due.refuses("23: fault is no change", 0, () -> {
            FieldQuotas y = start();
            Due.write(y, "day 1;address 0;day 0;");
            return y;
        }, y -> y.fault(0) - 16);
        FieldQuotas y = full();
        due.is("23: a full text", y.fault(0), -4);
        due.is("24: a full text", y.play(), 8);
    }

    private static void play() {
        FieldQuotas x = start();
        due.is("24: an empty text", x.play(), 0);
        due.is("24: is a change", x.count(8), 4);
        Due.write(x, "address 2;");
        due.is("24: one", x.play(), 1);
        due.is("24: the text stays", x.count(9), 10);
        due.is("24: one again", x.play(), 1);
        due.is("24: two addresses more", x.count(0), 4);
        x.type('x');
        due.is("24: a fault", x.play(), -2);
        due.is("24: nothing is done", x.count(0), 4);
        FieldQuotas y = new FieldQuotas();
        Due.write(y, "day 1;day 2;day 3;");
        due.is("24: three", y.play(), 3);
        due.is("24: all are done", y.count(2), 6);
    }

    /** Each command does what its call does. */
    private static void playOfEachCommand() {
        asCall("address 3;", x -> x.address(3));
        asCall("quota 1 2 17;", x -> x.quota(1, 2, 17));
        asCall("none 0 1 2;", x -> x.call(0, 1, 2, 0));
        asCall("refuse 0 1 2;", x -> x.call(0, 1, 2, 1));
        asCall("take 0 1 2 0;", x -> x.call(0, 1, 2, 2));
        asCall("take 0 0 1 2;", x -> x.call(0, 0, 1, 4));
        asCall("later 0 1 2 123 1;", x -> x.later(0, 1, 2, 123, 1));
        asCall("day 45;", x -> x.pass(45));
    }

    private static void asCall(String text, Due.Call call) {
        FieldQuotas played = start();
        Due.write(played, text);
        due.is("24: play of " + text, played.play(), 1);
        FieldQuotas called = start();
        due.holds("24: the call of " + text, call.on(called) >= 0);
        Due.write(called, text);
        due.same("24: " + text, Snapshot.of(played), Snapshot.of(called));
    }

    private static void playIsOneChange() {
        FieldQuotas x = new FieldQuotas();
        x.interviewer(0, 9);
        Due.write(x, "address 0;address 1;take 0 0 0 1;day 3;later 0 1 0 9 2;");
        due.is("24: five", x.play(), 5);
        due.is("24: one change", x.count(8), 2);
        due.is("24: the interview", x.cellOf(0, 1, 1), 1);
        due.is("24: the appointment", x.addressOf(1, 6), 9);
        due.is("24: undo", x.undo(), 1);
        due.is("24: all is undone", x.count(0) + x.count(2) + x.count(3), 0);
        due.is("24: the text stays", x.play(), 5);
        due.is("24: as before", x.count(3), 2);
    }
}
