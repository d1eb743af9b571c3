import java.util.ArrayList;
import java.util.List;
import java.util.regex.Matcher;
import java.util.regex.Pattern;

/**
 * The document told a second time, by other means and without care for speed or space; the
 * program is compared with it in long runs.
 */
final class Model {
    static final class Address {
        int area;
        int outcome;
        int vain;
        int group = -1;
        int meetingDay = -1;
        int meetingTime;
        final List<int[]> calls = new ArrayList<>();

        Address copy() {
            Address other = new Address();
            other.area = area;
            other.outcome = outcome;
            other.vain = vain;
            other.group = group;
            other.meetingDay = meetingDay;
            other.meetingTime = meetingTime;
            other.calls.addAll(calls);
            return other;
        }
    }

    static final class State {
        List<Address> addresses = new ArrayList<>();
        List<int[]> interviewers = new ArrayList<>();
        int[][] quota = {{2, 2, 2}, {2, 2, 2}, {2, 2, 2}, {2, 2, 2}};
        int[][] people = {{100, 100, 100}, {100, 100, 100}, {100, 100, 100}, {100, 100, 100}};
        int[] settings = {4, 1};
        int day;

        State copy() {
            State other = new State();
            for (Address a : addresses) {
                other.addresses.add(a.copy());
            }
            other.interviewers.addAll(interviewers);
            for (int area = 0; area < 4; area++) {
                other.quota[area] = quota[area].clone();
                other.people[area] = people[area].clone();
            }
            other.settings = settings.clone();
            other.day = day;
            return other;
        }
    }

    private static final Pattern COMMAND = Pattern.compile(
            "(address|day)((?: [0-9]{1,3}){1});|(quota|none|refuse)((?: [0-9]{1,3}){3});"
            + "|(take)((?: [0-9]{1,3}){4});|(later)((?: [0-9]{1,3}){5});");

    private State now = new State();
    private List<State> history = new ArrayList<>();
    private String text = "";

    private static boolean out(int number, int least, int most) {
        return number < least || number > most;
    }

    private int changed(State before, int answer) {
        if (answer < 0) {
            now = before;
            return answer;
        }
        history.add(before);
        if (history.size() > 4) {
            history.remove(0);
        }
        return answer;
    }

    int address(int area) {
        State before = now.copy();
        return changed(before, address(now, area));
    }

    int interviewer(int area, int load) {
        State before = now.copy();
        if (out(area, 0, 3) || out(load, 1, 9)) {
            return -1;
        }
        if (now.interviewers.size() == 5) {
            return -3;
        }
        now.interviewers.add(new int[] {area, load});
        return changed(before, now.interviewers.size() - 1);
    }

    int quota(int area, int group, int many) {
        State before = now.copy();
        return changed(before, quota(now, area, group, many));
    }

    int population(int area, int group, int number) {
        State before = now.copy();
        if (out(area, 0, 3) || out(group, 0, 2) || out(number, 0, 9999)) {
            return -1;
        }
        now.people[area][group] = number;
        return changed(before, before.people[area][group]);
    }

    int call(int interviewer, int address, int time, int what) {
        State before = now.copy();
        return changed(before, call(now, interviewer, address, time, what));
    }

    int later(int interviewer, int address, int time, int day, int then) {
        State before = now.copy();
        return changed(before, later(now, interviewer, address, time, day, then));
    }

    int pass(int days) {
        State before = now.copy();
        return changed(before, pass(now, days));
    }

    int set(int what, int value) {
        State before = now.copy();
        if (out(what, 0, 1) || out(value, 1 - what, 9)) {
            return -1;
        }
        now.settings[what] = value;
        return changed(before, before.settings[what]);
    }

    private static int address(State s, int area) {
        if (out(area, 0, 3)) {
            return -1;
        }
        if (s.addresses.size() == 24) {
            return -3;
        }
        Address a = new Address();
        a.area = area;
        s.addresses.add(a);
        return s.addresses.size() - 1;
    }

    private static int quota(State s, int area, int group, int many) {
        if (out(area, 0, 3) || out(group, 0, 2) || out(many, 0, 20)) {
            return -1;
        }
        int was = s.quota[area][group];
        s.quota[area][group] = many;
        return was;
    }

    private static int pass(State s, int days) {
        if (out(days, 1, 99)) {
            return -1;
        }
        if (s.day + days > 999) {
            return -3;
        }
        s.day += days;
        return s.day;
    }

    private static boolean wrongCall(State s, int interviewer, int address, int time) {
        return out(interviewer, 0, s.interviewers.size() - 1)
                || out(address, 0, s.addresses.size() - 1) || out(time, 0, 2);
    }

    private static int call(State s, int interviewer, int address, int time, int what) {
        if (wrongCall(s, interviewer, address, time) || out(what, 0, 4)) {
            return -1;
        }
        if (!can(s, interviewer, address, time)) {
            return -2;
        }
        Address a = s.addresses.get(address);
        a.meetingDay = -1;
        a.calls.add(new int[] {s.day, time, interviewer});
        if (what == 0) {
            a.vain++;
            a.outcome = a.vain >= s.settings[0] ? 3 : 0;
        } else if (what == 1) {
            a.outcome = 2;
        } else if (interviews(s, a.area, what - 2) >= s.quota[a.area][what - 2]) {
            a.outcome = 4;
        } else {
            a.outcome = 1;
            a.group = what - 2;
        }
        return a.outcome;
    }

    private static int later(State s, int interviewer, int address, int time, int day, int then) {
        if (wrongCall(s, interviewer, address, time) || out(day, 0, 999) || out(then, 0, 2)) {
            return -1;
        }
        if (!can(s, interviewer, address, time) || day <= s.day) {
            return -2;
        }
        Address a = s.addresses.get(address);
        a.calls.add(new int[] {s.day, time, interviewer});
        a.meetingDay = day;
        a.meetingTime = then;
        return Integer.bitCount(kind(s, 5));
    }

    private static int callsOf(State s, int interviewer, boolean today, boolean far, boolean all) {
        int many = 0;
        for (Address a : s.addresses) {
            for (int[] call : a.calls) {
                boolean isFar = a.area != s.interviewers.get(call[2])[0];
                boolean counts = all || today && call[0] == s.day || far && isFar;
                many += call[2] == interviewer && counts ? 1 : 0;
            }
        }
        return many;
    }

    private static boolean can(State s, int interviewer, int address, int time) {
        Address a = s.addresses.get(address);
        int load = s.interviewers.get(interviewer)[1];
        if (a.outcome != 0 || callsOf(s, interviewer, true, false, false) >= load) {
            return false;
        }
        if (a.meetingDay >= 0) {
            return a.meetingDay < s.day || a.meetingDay == s.day && a.meetingTime == time;
        }
        if (a.calls.isEmpty()) {
            return true;
        }
        int[] last = a.calls.get(a.calls.size() - 1);
        return last[1] != time && s.day - last[0] >= s.settings[1];
    }

    private static int interviews(State s, int area, int group) {
        int many = 0;
        for (Address a : s.addresses) {
            many += a.outcome == 1 && a.area == area && a.group == group ? 1 : 0;
        }
        return many;
    }

    int addressOf(int address, int what) {
        if (out(address, 0, now.addresses.size() - 1) || out(what, 0, 9)) {
            return -1;
        }
        Address a = now.addresses.get(address);
        int[] last = a.calls.isEmpty() ? new int[] {-4, -4, -4} : a.calls.get(a.calls.size() - 1);
        int[] meeting = a.meetingDay < 0 ? new int[] {-4, -4}
                : new int[] {a.meetingDay, a.meetingTime};
        int[] all = {a.area, a.outcome, a.calls.size(), a.vain, last[0], last[1], meeting[0],
            meeting[1], a.group < 0 ? -4 : a.group, last[2]};
        return all[what];
    }

    int interviewerOf(int interviewer, int what) {
        if (out(interviewer, 0, now.interviewers.size() - 1) || out(what, 0, 5)) {
            return -1;
        }
        int interviews = 0;
        for (Address a : now.addresses) {
            boolean isOwn = a.outcome == 1 && a.calls.get(a.calls.size() - 1)[2] == interviewer;
            interviews += isOwn ? 1 : 0;
        }
        int[] all = {now.interviewers.get(interviewer)[0], now.interviewers.get(interviewer)[1],
            callsOf(now, interviewer, true, false, false),
            callsOf(now, interviewer, false, false, true), interviews,
            callsOf(now, interviewer, false, true, false)};
        return all[what];
    }

    int cellOf(int area, int group, int what) {
        if (out(area, 0, 3) || out(group, 0, 2) || out(what, 0, 4)) {
            return -1;
        }
        int many = interviews(now, area, group);
        int quota = now.quota[area][group];
        int people = now.people[area][group];
        int weight = many == 0 ? -4 : Float.floatToIntBits((float) people / (float) many);
        return new int[] {quota, many, Math.max(0, quota - many), people, weight}[what];
    }

    private static int kind(State s, int what) {
        int set = 0;
        for (int i = 0; i < s.addresses.size(); i++) {
            Address a = s.addresses.get(i);
            boolean isOpen = a.outcome == 0;
            boolean[] is = {isOpen, a.outcome == 1, a.outcome == 2, a.outcome == 3, a.outcome == 4,
                isOpen && a.meetingDay >= 0, isOpen && a.meetingDay >= 0 && a.meetingDay < s.day,
                isOpen && a.calls.isEmpty()};
            set |= is[what] ? 1 << i : 0;
        }
        return set;
    }

    int addresses(int what) {
        return out(what, 0, 7) ? -1 : kind(now, what);
    }

    int count(int what) {
        if (out(what, 0, 11)) {
            return -1;
        }
        int calls = 0;
        int vain = 0;
        for (Address a : now.addresses) {
            calls += a.calls.size();
            vain += a.vain;
        }
        int wanted = 0;
        for (int cell = 0; cell < 12; cell++) {
            wanted += cellOf(cell / 3, cell % 3, 2);
        }
        int[] all = {now.addresses.size(), now.interviewers.size(), now.day, calls, vain,
            Integer.bitCount(kind(now, 1)), wanted, Integer.bitCount(kind(now, 5)),
            history.size(), text.length(), now.settings[0], now.settings[1]};
        return all[what];
    }

    int next(int interviewer, int time) {
        int set = possible(interviewer, time);
        if (set <= 0) {
            return set == 0 ? -4 : -1;
        }
        int best = -1;
        int[] bestKey = null;
        for (int i = 0; i < now.addresses.size(); i++) {
            if ((set >> i & 1) == 1) {
                int[] key = keyOf(interviewer, time, i);
                if (bestKey == null || java.util.Arrays.compare(key, bestKey) < 0) {
                    best = i;
                    bestKey = key;
                }
            }
        }
        return best;
    }

    private int[] keyOf(int interviewer, int time, int address) {
        Address a = now.addresses.get(address);
        boolean isNow = a.meetingDay == now.day && a.meetingTime == time;
        int wanted = cellOf(a.area, 0, 2) + cellOf(a.area, 1, 2) + cellOf(a.area, 2, 2);
        return new int[] {isNow ? 0 : 1, a.meetingDay >= 0 ? 0 : 1,
            a.area == now.interviewers.get(interviewer)[0] ? 0 : 1, wanted > 0 ? 0 : 1,
            a.calls.size(), address};
    }

    int possible(int interviewer, int time) {
        if (out(interviewer, 0, now.interviewers.size() - 1) || out(time, 0, 2)) {
            return -1;
        }
        int set = 0;
        for (int i = 0; i < now.addresses.size(); i++) {
            set |= can(now, interviewer, i, time) ? 1 << i : 0;
        }
        return set;
    }

    int daysLeft() {
        int needed = 0;
        for (Address a : now.addresses) {
            needed += a.outcome == 0 ? Math.max(1, now.settings[0] - a.vain) : 0;
        }
        if (needed == 0) {
            return 0;
        }
        if (now.interviewers.isEmpty()) {
            return -4;
        }
        for (int days = 1;; days++) {
            int room = 0;
            for (int i = 0; i < now.interviewers.size(); i++) {
                room += now.interviewers.get(i)[1] * days - interviewerOf(i, 2);
            }
            if (room >= needed) {
                return days;
            }
        }
    }

    int rateBits() {
        int ended = 0;
        for (Address a : now.addresses) {
            ended += a.outcome != 0 ? 1 : 0;
        }
        return ended == 0 ? -4 : Float.floatToIntBits((float) count(5) / (float) ended);
    }

    int partBits(int group) {
        if (out(group, 0, 2)) {
            return -1;
        }
        float own = 0;
        float all = 0;
        for (int g = 0; g < 3; g++) {
            for (int area = 0; area < 4; area++) {
                float many = interviews(now, area, g);
                if (many > 0) {
                    float part = (float) now.people[area][g] / many * many;
                    all = all + part;
                    own = g == group ? own + part : own;
                }
            }
        }
        return all == 0 ? -4 : Float.floatToIntBits(own / all);
    }

    int undo() {
        if (history.isEmpty()) {
            return -2;
        }
        now = history.remove(history.size() - 1);
        return history.size();
    }

    int type(int character) {
        if (out(character, 32, 126)) {
            return -1;
        }
        if (text.length() == 80) {
            return -3;
        }
        text += (char) character;
        return text.length();
    }

    int clearText() {
        int was = text.length();
        text = "";
        return was;
    }

    /** Place and reason of the fault, or how many commands there are, and 0. */
    private int[] perform(State s) {
        Matcher command = COMMAND.matcher(text);
        int place = 0;
        int many = 0;
        while (place < text.length()) {
            if (!command.region(place, text.length()).lookingAt()) {
                return new int[] {place, 1};
            }
            String[] words = command.group().replace(";", "").split(" ");
            int[] n = new int[6];
            for (int i = 1; i < words.length; i++) {
                n[i] = Integer.parseInt(words[i]);
            }
            int answer = perform(s, words[0], n);
            if (answer < 0) {
                return new int[] {place, answer == -1 ? 2 : 3};
            }
            many++;
            place = command.end();
        }
        return new int[] {many, 0};
    }

    private static int perform(State s, String word, int[] n) {
        switch (word) {
            case "address":
                return address(s, n[1]);
            case "quota":
                return quota(s, n[1], n[2], n[3]);
            case "none":
                return call(s, n[1], n[2], n[3], 0);
            case "refuse":
                return call(s, n[1], n[2], n[3], 1);
            case "take":
                return n[4] > 2 ? -1 : call(s, n[1], n[2], n[3], n[4] + 2);
            case "later":
                return later(s, n[1], n[2], n[3], n[4], n[5]);
            default:
                return pass(s, n[1]);
        }
    }

    int fault(int what) {
        if (out(what, 0, 1)) {
            return -1;
        }
        int[] end = perform(now.copy());
        return end[1] == 0 ? -4 : end[what];
    }

    int play() {
        State before = now.copy();
        int[] end = perform(now);
        return changed(before, end[1] == 0 ? end[0] : -2);
    }
}
