/** The sentences of "Texts" and of the promises 21 to 24. */
final class TextBoundaries {
    private TextBoundaries() {
    }

    static void tell(Sentences all) {
        tellOfForms(all);
        tellOfFaults(all);
        all.of("Promise 21", "character: 32 to 126", TextBoundaries::characters);
        all.of("Promise 21", "Returns the length of the text", TextBoundaries::lengthThen);
        all.of("Promise 21", "INVALID_ARGUMENT if character is out of range",
                TextBoundaries::wrongCharacter);
        all.of("Promise 21", "LIMIT_REACHED if it has 80 characters", TextBoundaries::has80);
        all.of("Promise 22", "Empties the text.", TextBoundaries::empties);
        all.of("Promise 22", "Returns the length it had.", TextBoundaries::lengthItHad);
        all.of("Promise 23", "what: 0: its position; 1: its reason", TextBoundaries::whatOfFault);
        all.of("Promise 23", "INVALID_ARGUMENT if what is out of range",
                TextBoundaries::wrongWhatOfFault);
        all.of("Promise 23", "NOT_FOUND if the text has no fault (also if it is empty)",
                TextBoundaries::noFault);
        all.of("Promise 24", "Does all commands of the text, which stays.",
                TextBoundaries::doesAll);
        all.of("Promise 24", "They are one change, also if there are none.",
                TextBoundaries::oneChange);
        all.of("Promise 24", "Returns how many there are in it", TextBoundaries::howMany);
        all.of("Promise 24", "NOT_POSSIBLE if it has a fault", TextBoundaries::notPossible);
    }

    private static void tellOfForms(Sentences all) {
        all.of("Texts", "There is a text of at most 80 characters, initially empty",
                TextBoundaries::atMost80);
        all.of("Texts", "commands, each followed by \";\"", TextBoundaries::semicolons);
        all.of("Texts", "of words with one blank between two", TextBoundaries::blanks);
        all.of("Texts", "\"address\" an area", TextBoundaries::address);
        all.of("Texts", "\"quota\" an area, a group and a number", TextBoundaries::quota);
        all.of("Texts", "\"none\" an interviewer, an address and a time (nobody is there)",
                TextBoundaries::none);
        all.of("Texts", "\"refuse\" (likewise)", TextBoundaries::refuse);
        all.of("Texts", "\"take\" an interviewer, an address, a time and a group (an interview)",
                TextBoundaries::take);
        all.of("Texts", "\"later\" an interviewer, an address, a time, a day and its time (an"
                + " appointment)", TextBoundaries::later);
        all.of("Texts", "or \"day\" days (they go by)", TextBoundaries::day);
        all.of("Texts", "numbers have one to three digits, 0 ahead allowed",
                TextBoundaries::digits);
    }

    private static void tellOfFaults(Sentences all) {
        all.of("Texts", "The fault of the text is the position, from 0, of the first character of"
                + " the first command that is not possible", TextBoundaries::firstFault);
        all.of("Texts", "when those ahead of it are done", TextBoundaries::aheadAreDone);
        all.of("Texts", "its reason is 1 if it is not of this form, its \";\" included",
                TextBoundaries::reason1);
        all.of("Texts", "2 if the call would return INVALID_ARGUMENT for it",
                TextBoundaries::reason2);
        all.of("Texts", "3 if it would return another error", TextBoundaries::reason3);
    }

    /** The fault of a text in the field of Made; -4 and -4 if there is none. */
    private static void fault(Due due, String text, int position, int reason) {
        fault(due, Made.field(), text, position, reason);
    }

    private static void fault(Due due, FieldQuotas x, String text, int position, int reason) {
        Due.rewrite(x, text);
        due.is("position in '" + text + "'", x.fault(0), position);
        due.is("reason in '" + text + "'", x.fault(1), reason);
        String before = Snapshot.of(x);
        int played = x.play();
        due.holds("play of '" + text + "'", position < 0 ? played > 0 : played == -2);
        if (position >= 0) {
            due.same("all stands behind '" + text + "'", Snapshot.of(x), before);
        }
    }

    private static void good(Due due, String... texts) {
        for (String text : texts) {
            fault(due, text, -4, -4);
        }
    }

    private static void bad(Due due, int reason, String... texts) {
        for (String text : texts) {
            fault(due, text, 0, reason);
        }
    }

    /** The text, played, does what the call does. */
    private static void does(Due due, String text, Due.Call call) {
        FieldQuotas played = Made.fieldWith(text);
        due.is("play of '" + text + "'", played.play(), 1);
        FieldQuotas called = Made.fieldWith(text);
        due.holds("the call of '" + text + "'", call.on(called) >= 0);
        due.same("'" + text + "'", Snapshot.of(played), Snapshot.of(called));
    }

    // ---- the form

    private static void atMost80(Due due) {
        FieldQuotas x = Made.field();
        due.is("initially", x.count(9), 0);
        for (int i = 0; i < 8; i++) {
            Due.write(x, "address 0;");
        }
        due.is("80 characters", x.count(9), 80);
        due.is("the 81st", x.type(59), -3);
        due.is("no fault", x.fault(0), -4);
        due.is("8 commands", x.play(), 8);
        due.is("8 addresses more", x.count(0), 12);
        due.is("it stays", x.count(9), 80);
    }

    private static void semicolons(Due due) {
        good(due, "day 1;", "day 1;day 1;", "day 1;address 0;day 1;");
        bad(due, 1, ";", "day 1", "day 1,", "day 1:", "day 1 ;", "day 1day 1;", "day 1 day 1;");
        fault(due, "day 1;;", 6, 1);
        fault(due, "day 1;day 1", 6, 1);
        fault(due, "day 1; day 1;", 6, 1);
        fault(due, "day 1; ", 6, 1);
        fault(due, "day 1;,day 1;", 6, 1);
    }

    private static void blanks(Due due) {
        good(due, "later 0 0 0 1 0;");
        bad(due, 1, " ", " later 0 0 0 1 0;", "later  0 0 0 1 0;", "later 0  0 0 1 0;",
                "later 0 0  0 1 0;", "later 0 0 0  1 0;", "later 0 0 0 1  0;", "later 0 0 0 1 0 ;",
                "later0 0 0 1 0;", "later 00 0 1 0;", "later 0,0 0 1 0;", "lat er 0 0 0 1 0;",
                "later 0 0 0 1 0 0;", "later 0 0 0 1;", "later 0 0 0 1 ;");
    }

    private static void address(Due due) {
        good(due, "address 0;", "address 3;");
        bad(due, 2, "address 4;", "address 999;");
        bad(due, 1, "address;", "address ;", "address -1;", "address 0 0;", "Address 0;",
                "addres 0;", "addresss 0;", "bddress 0;", "addresz 0;");
        does(due, "address 3;", x -> x.address(3));
    }

    private static void quota(Due due) {
        good(due, "quota 0 0 0;", "quota 3 2 20;");
        bad(due, 2, "quota 4 0 0;", "quota 0 3 0;", "quota 0 0 21;");
        bad(due, 1, "quota 0 0;", "quota 0 0 0 0;", "quot 0 0 0;", "quotas 0 0 0;", "ruota 0 0 0;");
        does(due, "quota 3 1 20;", x -> x.quota(3, 1, 20));
        does(due, "quota 0 2 0;", x -> x.quota(0, 2, 0));
    }

    private static void none(Due due) {
        good(due, "none 0 0 0;", "none 1 3 2;");
        bad(due, 2, "none 2 0 0;", "none 0 4 0;", "none 0 0 3;");
        bad(due, 1, "none 0 0;", "none 0 0 0 0;", "non 0 0 0;", "nones 0 0 0;", "mone 0 0 0;");
        does(due, "none 1 3 2;", x -> x.call(1, 3, 2, 0));
    }

    private static void refuse(Due due) {
        good(due, "refuse 0 0 0;", "refuse 1 3 2;");
        bad(due, 2, "refuse 2 0 0;", "refuse 0 4 0;", "refuse 0 0 3;");
        bad(due, 1, "refuse 0 0;", "refuse 0 0 0 0;", "refus 0 0 0;", "refused 0 0 0;");
        does(due, "refuse 1 3 2;", x -> x.call(1, 3, 2, 1));
    }

    private static void take(Due due) {
        good(due, "take 0 0 0 0;", "take 1 3 2 2;");
        bad(due, 2, "take 2 0 0 0;", "take 0 4 0 0;", "take 0 0 3 0;", "take 0 0 0 3;",
                "take 0 0 0 999;");
        bad(due, 1, "take 0 0 0;", "take 0 0 0 0 0;", "tak 0 0 0 0;", "takes 0 0 0 0;");
        for (int group = 0; group <= 2; group++) {
            int what = group + 2;
            does(due, group == 0 ? "take 1 3 2 0;" : group == 1 ? "take 1 3 2 1;" : "take 1 3 2 2;",
                    x -> x.call(1, 3, 2, what));
        }
    }

    private static void later(Due due) {
        good(due, "later 0 0 0 1 0;", "later 1 3 2 999 2;");
        bad(due, 2, "later 2 0 0 1 0;", "later 0 4 0 1 0;", "later 0 0 3 1 0;", "later 0 0 0 1 3;");
        bad(due, 1, "later 0 0 0 1;", "later 0 0 0 1 0 0;", "late 0 0 0 1 0;", "laters 0 0 0 1 0;",
                "later 0 0 0 1000 0;");
        bad(due, 3, "later 0 0 0 0 0;");
        does(due, "later 1 3 2 999 1;", x -> x.later(1, 3, 2, 999, 1));
    }

    private static void day(Due due) {
        good(due, "day 1;", "day 99;");
        bad(due, 2, "day 0;", "day 100;", "day 999;");
        bad(due, 1, "day;", "day 1 1;", "da 1;", "days 1;", "pass 1;", "day 1000;");
        does(due, "day 99;", x -> x.pass(99));
    }

    private static void digits(Due due) {
        good(due, "address 0;", "address 00;", "address 000;", "address 003;", "day 1;", "day 01;",
                "day 001;", "day 099;", "quota 000 001 020;", "later 000 003 002 001 000;",
                "later 0 0 0 999 0;", "later 0 0 0 010 0;");
        bad(due, 1, "address 0000;", "address 0003;", "day 0001;", "quota 0 0 0020;",
                "none 0000 0 0;", "take 0 0 0 0000;", "later 0 0 0 0001 0;", "address +1;",
                "address a;", "address 1a;", "address /;", "address :;", "day 1.0;");
        does(due, "day 017;", x -> x.pass(17));
        does(due, "quota 001 002 020;", x -> x.quota(1, 2, 20));
        does(due, "later 000 001 002 123 001;", x -> x.later(0, 1, 2, 123, 1));
    }

    // ---- the fault

    private static void firstFault(Due due) {
        fault(due, "day 0;", 0, 2);
        fault(due, "day 1;day 0;day 1;", 6, 2);
        fault(due, "day 1;day 0;x", 6, 2);
        fault(due, "day 1;x;day 0;", 6, 1);
        fault(due, "address 0;quota 0 0 21;none 9 9 9;", 10, 2);
        fault(due, "quota 0 0 1;later 0 0 0 0 0;x", 12, 3);
        // The last of 80 characters is a command of its own.
        StringBuilder text = new StringBuilder();
        for (int i = 0; i < 9; i++) {
            text.append("day 001;");
        }
        fault(due, text + "day 01;x", 79, 1);
        fault(due, text + "day 001;", -4, -4);
        fault(due, text + "day 0001", 72, 1);
    }

    private static void aheadAreDone(Due due) {
        good(due, "address 0;none 0 4 0;", "none 0 0 0;day 1;none 0 0 1;",
                "later 0 0 0 1 2;day 1;take 1 0 2 1;", "day 1;later 0 0 0 2 0;");
        fault(due, "none 0 0 0;none 0 0 1;", 11, 3);
        fault(due, "none 0 0 0;day 1;none 0 0 0;", 17, 3);
        fault(due, "day 1;later 0 0 0 1 0;", 6, 3);
        fault(due, "none 0 4 0;address 0;", 0, 2);
        fault(due, "address 0;none 0 5 0;", 10, 2);
        fault(due, "refuse 0 0 0;none 0 0 1;", 13, 3);
        fault(due, "quota 0 0 0;take 0 0 0 0;take 0 0 1 0;", 25, 3);
        FieldQuotas x = Made.houses(1);
        x.set(0, 1);
        fault(due, x, "none 0 0 0;day 1;none 0 0 1;", 17, 3);
        FieldQuotas y = new FieldQuotas();
        y.interviewer(0, 1);
        y.address(0);
        y.address(0);
        fault(due, y, "none 0 0 0;none 0 1 0;", 11, 3);
        fault(due, y, "none 0 0 0;day 1;none 0 1 0;", -4, -4);
    }

    private static void reason1(Due due) {
        bad(due, 1, "x", "address", "address 0", "address 4", "day 0", "none 9 9 9", "take 0 0 0;",
                "later 0 0 0 0 0", "later 0 0 0 0 0 0;", "interviewer 0 1;", "population 0 0 1;",
                "set 0 1;", "call 0 0 0 0;", "undo;", "~;", "a;", "9;", "\";");
    }

    private static void reason2(Due due) {
        bad(due, 2, "address 4;", "quota 0 0 21;", "none 0 4 0;", "refuse 2 0 0;", "take 0 0 0 3;",
                "later 0 0 0 1 3;", "later 0 0 0 0 3;", "day 100;");
        FieldQuotas full = Made.full();
        Made.passTo(full, 999);
        full.call(0, 0, 0, 1);
        fault(due, full, "address 4;", 0, 2);
        fault(due, full, "day 0;", 0, 2);
        fault(due, full, "none 0 0 3;", 0, 2);
        fault(due, full, "take 0 0 0 3;", 0, 2);
        fault(due, Made.houses(0), "none 0 0 0;", 0, 2);
        fault(due, new FieldQuotas(), "refuse 0 0 0;", 0, 2);
    }

    private static void reason3(Due due) {
        FieldQuotas full = Made.full();
        Made.passTo(full, 998);
        full.call(0, 0, 0, 1);
        fault(due, full, "address 0;", 0, 3);
        fault(due, full, "day 2;", 0, 3);
        fault(due, full, "day 99;", 0, 3);
        fault(due, full, "none 0 0 1;", 0, 3);
        fault(due, full, "refuse 0 0 1;", 0, 3);
        fault(due, full, "take 0 0 1 0;", 0, 3);
        fault(due, full, "later 0 0 1 999 0;", 0, 3);
        fault(due, full, "later 0 1 1 998 0;", 0, 3);
        fault(due, full, "day 1;day 1;", 6, 3);
        fault(due, full, "day 1;", -4, -4);
        fault(due, full, "day 1;", 0, 3);
        FieldQuotas x = Made.full();
        x.undo();
        fault(due, x, "address 0;address 0;", 10, 3);
    }

    // ---- type, clearText

    private static void characters(Due due) {
        FieldQuotas x = new FieldQuotas();
        for (int character = 32; character <= 126; character++) {
            if (x.count(9) == 80) {
                x.clearText();
            }
            due.is("the character " + character, x.type(character), x.count(9));
        }
        due.is("31", x.type(31), -1);
        due.is("127", x.type(127), -1);
        // Each of them is kept as it is: no other one makes the text good.
        for (int character = 32; character <= 126; character++) {
            FieldQuotas y = Made.field();
            Due.write(y, "day 1");
            y.type(character);
            boolean isEnd = character == ';';
            due.is("day 1 and " + character, y.fault(0), isEnd ? -4 : 0);
        }
    }

    private static void lengthThen(Due due) {
        FieldQuotas x = new FieldQuotas();
        for (int length = 1; length <= 80; length++) {
            due.is("the length", x.type(32), length);
        }
        x.clearText();
        due.is("from the beginning", x.type(32), 1);
        x.type(31);
        due.is("behind a wrong character", x.type(32), 2);
        x.pass(1);
        x.undo();
        due.is("behind an undo", x.type(32), 3);
        x.play();
        due.is("behind a play", x.type(32), 4);
    }

    private static void wrongCharacter(Due due) {
        due.bounds("character", 32, 126, () -> Made.fieldWith("day 1;"), (x, n) -> x.type(n));
        due.bounds("character of a full text", 32, 126, TextBoundaries::fullText,
                (x, n) -> x.type(n));
        due.bounds("character", 32, 126, () -> Made.fieldWith("day 1"), (x, n) -> x.type(n));
        due.is("a ; and 65536", Made.field().type(59 + 65536), -1);
        due.is("a ; and 256", Made.field().type(59 + 256), -1);
    }

    private static FieldQuotas fullText() {
        FieldQuotas x = Made.field();
        for (int i = 0; i < 8; i++) {
            Due.write(x, "address 0;");
        }
        return x;
    }

    private static void has80(Due due) {
        FieldQuotas x = new FieldQuotas();
        for (int i = 0; i < 79; i++) {
            x.type(32);
        }
        due.is("it has 79", x.type(126), 80);
        due.is("it has 80", x.type(126), -3);
        due.is("still", x.type(32), -3);
        due.refuses("type", -3, TextBoundaries::fullText, y -> y.type(32));
        due.refuses("type", -3, TextBoundaries::fullText, y -> y.type(59));
        FieldQuotas y = fullText();
        y.undo();
        due.is("undo makes no room", y.type(32), -3);
        y.clearText();
        due.is("clearText does", y.type(32), 1);
    }

    private static void empties(Due due) {
        FieldQuotas x = fullText();
        x.clearText();
        due.is("no characters", x.count(9), 0);
        due.is("no fault", x.fault(0), -4);
        due.is("no commands", x.play(), 0);
        Due.rewrite(x, "day 1;day 2;");
        for (int length = 0; length <= 6; length++) {
            Due.rewrite(x, "day 1;".substring(0, length));
            boolean isGood = length == 0 || length == 6;
            due.is("nothing is left of the old text", x.fault(0), isGood ? -4 : 0);
            due.is("nothing is left of the old text", x.fault(1), isGood ? -4 : 1);
        }
        due.is("nor is it done", x.play(), 1);
        due.is("the day", x.count(2), 1);
        FieldQuotas y = Made.fieldWith("day 1;");
        y.clearText();
        due.is("it is no change", y.count(8), 4);
        y.undo();
        due.is("undo does not bring it back", y.count(9), 0);
    }

    private static void lengthItHad(Due due) {
        for (int length = 0; length <= 80; length++) {
            FieldQuotas x = new FieldQuotas();
            for (int i = 0; i < length; i++) {
                x.type(65);
            }
            due.is("the length", x.clearText(), length);
            due.is("empty", x.clearText(), 0);
        }
        FieldQuotas y = fullText();
        y.type(65);
        due.is("a full one", y.clearText(), 80);
    }

    // ---- fault, play

    private static void whatOfFault(Due due) {
        FieldQuotas x = Made.fieldWith("day 1;later 0 0 0 1 0;");
        due.is("its position", x.fault(0), 6);
        due.is("its reason", x.fault(1), 3);
        due.is("nothing is done", x.count(2), 0);
        due.is("asked again", x.fault(0), 6);
        x.later(0, 0, 0, 1, 0);
        due.is("in another state, its position", x.fault(0), 6);
        x.pass(1);
        due.is("in another state, its reason", x.fault(1), 3);
        due.is("-1", x.fault(-1), -1);
        due.is("2", x.fault(2), -1);
    }

    private static void wrongWhatOfFault(Due due) {
        due.bounds("what", 0, 1, () -> Made.fieldWith("day 0;"), (x, n) -> x.fault(n));
        due.bounds("what of a good text", 0, 1, () -> Made.fieldWith("day 1;"),
                (x, n) -> x.fault(n));
        due.bounds("what of an empty text", 0, 1, Made::field, (x, n) -> x.fault(n));
    }

    private static void noFault(Due due) {
        FieldQuotas x = Made.field();
        for (String text : new String[] {"", "day 1;", "address 0;none 0 4 0;"}) {
            Due.rewrite(x, text);
            due.is("the position in '" + text + "'", x.fault(0), -4);
            due.is("the reason in '" + text + "'", x.fault(1), -4);
        }
        Due.rewrite(x, "day 0;");
        due.is("a fault", x.fault(1), 2);
        x.clearText();
        due.is("it is gone", x.fault(1), -4);
        due.is("it is gone", x.fault(0), -4);
        due.is("a new object", new FieldQuotas().fault(1), -4);
    }

    private static void doesAll(Due due) {
        FieldQuotas x = Made.fieldWith("address 2;take 0 4 1 2;none 1 0 0;day 2;later 1 0 1 7 2;");
        due.is("play", x.play(), 5);
        due.is("an address", x.count(0), 5);
        due.is("an interview", x.cellOf(2, 2, 1), 1);
        due.is("the day", x.count(2), 2);
        due.is("calls", x.addressOf(0, 2) * 10 + x.addressOf(0, 3), 21);
        due.is("an appointment", x.addressOf(0, 6) * 10 + x.addressOf(0, 7), 72);
        due.is("the text stays", x.count(9), 56);
        due.is("it has a fault now", x.fault(0), 10);
        Due.rewrite(x, "address 1;");
        due.is("play", x.play(), 1);
        due.is("play of the same text", x.play(), 1);
        due.is("addresses", x.count(0), 7);
    }

    private static void oneChange(Due due) {
        FieldQuotas x = new FieldQuotas();
        due.is("no commands", x.play(), 0);
        due.is("one state", x.count(8), 1);
        due.is("it can be undone", x.undo(), 0);
        Due.write(x, "day 1;day 2;day 3;day 4;day 5;day 6;");
        due.is("six commands", x.play(), 6);
        due.is("one state", x.count(8), 1);
        due.is("the day", x.count(2), 21);
        due.is("undo", x.undo(), 0);
        due.is("all of them are undone", x.count(2), 0);
        due.is("the text stays", x.count(9), 36);
        x.clearText();
        for (int i = 1; i <= 6; i++) {
            x.play();
            due.is("states", x.count(8), Math.min(i, 4));
        }
    }

    private static void howMany(Due due) {
        FieldQuotas x = new FieldQuotas();
        due.is("none", x.play(), 0);
        for (int many = 1; many <= 13; many++) {
            Due.write(x, "day 1;");
            due.is("commands", x.play(), many);
        }
        due.is("the day", x.count(2), 13 * 14 / 2);
        x.clearText();
        due.is("none again", x.play(), 0);
    }

    private static void notPossible(Due due) {
        due.refuses("a fault of form", -2, () -> Made.fieldWith("day 1;address 0;x"),
                x -> x.play());
        due.refuses("a wrong argument", -2, () -> Made.fieldWith("day 1;address 4;"),
                x -> x.play());
        due.refuses("another error", -2, () -> Made.fieldWith("take 0 0 0 0;none 0 0 1;"),
                x -> x.play());
        due.refuses("the first command", -2, () -> Made.fieldWith("x;day 1;"), x -> x.play());
        due.refuses("no end", -2, () -> Made.fieldWith("day 1;day 1"), x -> x.play());
        FieldQuotas x = Made.fieldWith("day 1;day 1");
        x.play();
        x.type(59);
        due.is("the end is typed", x.play(), 2);
        due.is("the day", x.count(2), 2);
    }
}
