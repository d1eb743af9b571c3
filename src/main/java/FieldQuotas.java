/**
 * Fieldwork of a survey: addresses, interviewers, calls, appointments, quotas, the next call,
 * what is left to do, weights, and commands as texts.
 *
 * <p>Everything that a call needs is made in the constructor and used again, so that no call
 * makes an object.
 */
public final class FieldQuotas {
    public static final int INVALID_ARGUMENT = -1;
    public static final int NOT_POSSIBLE = -2;
    public static final int LIMIT_REACHED = -3;
    public static final int NOT_FOUND = -4;

    private static final int AREAS = 4;
    private static final int GROUPS = 3;
    private static final int TIMES = 3;
    private static final int MOST_ADDRESSES = 24;
    private static final int MOST_INTERVIEWERS = 5;
    private static final int MOST_LOAD = 9;
    private static final int MOST_QUOTA = 20;
    private static final int MOST_PEOPLE = 9999;
    private static final int MOST_DAYS_AT_ONCE = 99;
    private static final int LAST_DAY = 999;
    private static final int MOST_SETTING = 9;
    private static final int MOST_STATES = 4;
    private static final int MOST_CHARACTERS = 80;
    private static final int MOST_NUMBERS = 5;
    private static final int MOST_DIGITS = 3;
    private static final int FIRST_CHARACTER = 32;
    private static final int LAST_CHARACTER = 126;

    private static final int FIRST_QUOTA = 2;
    private static final int FIRST_PEOPLE = 100;
    private static final int FIRST_VAIN_LIMIT = 4;
    private static final int FIRST_DAYS_BETWEEN = 1;

    // The columns of an address are in the order in which addressOf numbers them.
    private static final int ADDRESS_AREA = 0;
    private static final int ADDRESS_OUTCOME = 1;
    private static final int ADDRESS_CALLS = 2;
    private static final int ADDRESS_VAIN = 3;
    private static final int ADDRESS_CALL_DAY = 4;
    private static final int ADDRESS_CALL_TIME = 5;
    private static final int ADDRESS_MEETING_DAY = 6;
    private static final int ADDRESS_MEETING_TIME = 7;
    private static final int ADDRESS_GROUP = 8;
    private static final int ADDRESS_CALLER = 9;
    private static final int ADDRESS_COLUMNS = 10;

    // The columns of an interviewer are in the order in which interviewerOf numbers them.
    private static final int INTERVIEWER_AREA = 0;
    private static final int INTERVIEWER_LOAD = 1;
    private static final int INTERVIEWER_TODAY = 2;
    private static final int INTERVIEWER_CALLS = 3;
    private static final int INTERVIEWER_INTERVIEWS = 4;
    private static final int INTERVIEWER_TRAVELS = 5;
    private static final int INTERVIEWER_COLUMNS = 6;

    private static final int CELL_QUOTA = 0;
    private static final int CELL_INTERVIEWS = 1;
    private static final int CELL_PEOPLE = 2;
    private static final int CELL_COLUMNS = 3;

    private static final int OPEN = 0;
    private static final int INTERVIEWED = 1;
    private static final int REFUSED = 2;
    private static final int NOT_REACHED = 3;
    private static final int NOT_WANTED = 4;

    private static final int NOBODY_IS_THERE = 0;
    private static final int REFUSAL = 1;
    private static final int FIRST_INTERVIEW = 2;

    private static final int NO_REASON = 0;
    private static final int NOT_OF_THE_FORM = 1;
    private static final int WRONG_ARGUMENT = 2;
    private static final int OTHER_ERROR = 3;

    private final Survey survey;
    private final Overview overview;
    private final History history;
    private final Script script;
    private final Rehearsal rehearsal;

    public FieldQuotas() {
        survey = new Survey();
        overview = new Overview(survey);
        history = new History();
        script = new Script();
        rehearsal = new Rehearsal(script);
    }

    // ---- what there is to do

    public int address(int area) {
        history.draft(survey);
        return history.settle(survey.addAddress(area));
    }

    public int interviewer(int area, int load) {
        history.draft(survey);
        return history.settle(survey.addInterviewer(area, load));
    }

    public int quota(int area, int group, int many) {
        history.draft(survey);
        return history.settle(survey.changeQuota(area, group, many));
    }

    public int population(int area, int group, int people) {
        history.draft(survey);
        return history.settle(survey.changePopulation(area, group, people));
    }

    // ---- calls

    public int call(int interviewer, int address, int time, int what) {
        history.draft(survey);
        return history.settle(survey.makeCall(interviewer, address, time, what));
    }

    public int later(int interviewer, int address, int time, int day, int then) {
        history.draft(survey);
        return history.settle(survey.makeMeeting(interviewer, address, time, day, then));
    }

    public int pass(int days) {
        history.draft(survey);
        return history.settle(survey.passDays(days));
    }

    public int set(int what, int value) {
        history.draft(survey);
        return history.settle(survey.changeSetting(what, value));
    }

    // ---- what there is

    public int addressOf(int address, int what) {
        if (!survey.hasAddress(address) || !isWithin(what, 0, ADDRESS_COLUMNS - 1)) {
            return INVALID_ARGUMENT;
        }
        return survey.ofAddress(address, what);
    }

    public int interviewerOf(int interviewer, int what) {
        if (!survey.hasInterviewer(interviewer) || !isWithin(what, 0, INTERVIEWER_COLUMNS - 1)) {
            return INVALID_ARGUMENT;
        }
        return survey.ofInterviewer(interviewer, what);
    }

    public int cellOf(int area, int group, int what) {
        if (!isCell(area, group)) {
            return INVALID_ARGUMENT;
        }
        switch (what) {
            case 0:
                return survey.ofCell(area, group, CELL_QUOTA);
            case 1:
                return survey.ofCell(area, group, CELL_INTERVIEWS);
            case 2:
                return survey.wantedIn(area, group);
            case 3:
                return survey.ofCell(area, group, CELL_PEOPLE);
            case 4:
                return overview.weightBits(area, group);
            default:
                return INVALID_ARGUMENT;
        }
    }

    public int addresses(int what) {
        if (!isWithin(what, 0, 7)) {
            return INVALID_ARGUMENT;
        }
        return overview.addressesOfKind(what);
    }

    public int count(int what) {
        switch (what) {
            case 8:
                return history.size();
            case 9:
                return script.length();
            default:
                return overview.number(what);
        }
    }

    // ---- what should be done

    public int next(int interviewer, int time) {
        if (!survey.hasInterviewer(interviewer) || !isTime(time)) {
            return INVALID_ARGUMENT;
        }
        return overview.bestAddress(interviewer, time);
    }

    public int possible(int interviewer, int time) {
        if (!survey.hasInterviewer(interviewer) || !isTime(time)) {
            return INVALID_ARGUMENT;
        }
        return overview.possibleAddresses(interviewer, time);
    }

    public int daysLeft() {
        return overview.daysNeeded();
    }

    public int rateBits() {
        return overview.rateOfInterviews();
    }

    public int partBits(int group) {
        if (!isWithin(group, 0, GROUPS - 1)) {
            return INVALID_ARGUMENT;
        }
        return overview.partOfGroup(group);
    }

    public int undo() {
        return history.restore(survey);
    }

    // ---- texts

    public int type(int character) {
        return script.append(character);
    }

    public int clearText() {
        return script.clear();
    }

    public int fault(int what) {
        if (!isWithin(what, 0, 1)) {
            return INVALID_ARGUMENT;
        }
        rehearsal.run(survey);
        if (!rehearsal.hasFault()) {
            return NOT_FOUND;
        }
        return what == 0 ? rehearsal.position() : rehearsal.reason();
    }

    public int play() {
        rehearsal.run(survey);
        if (rehearsal.hasFault()) {
            return NOT_POSSIBLE;
        }
        history.draft(survey);
        rehearsal.copyTo(survey);
        return history.settle(rehearsal.commands());
    }

    // ---- ranges of arguments

    private static boolean isWithin(int number, int least, int most) {
        return number >= least && number <= most;
    }

    private static boolean isCell(int area, int group) {
        return isWithin(area, 0, AREAS - 1) && isWithin(group, 0, GROUPS - 1);
    }

    private static boolean isTime(int time) {
        return isWithin(time, 0, TIMES - 1);
    }

    /** Rows of numbers. A place outside of them is read as 0 and not written, so nothing throws. */
    private static final class Table {
        private final int[] numbers;
        private final int columns;

        Table(int rows, int columns) {
            int size = rows * columns;
            this.numbers = new int[size > 0 ? size : 0];
            this.columns = columns;
        }

        int get(int row, int column) {
            int at = row * columns + column;
            return at >= 0 && at < numbers.length ? numbers[at] : 0;
        }

        void put(int row, int column, int number) {
            int at = row * columns + column;
            if (at >= 0 && at < numbers.length) {
                numbers[at] = number;
            }
        }

        void increase(int row, int column) {
            put(row, column, get(row, column) + 1);
        }

        void copyFrom(Table other) {
            for (int i = 0; i < numbers.length && i < other.numbers.length; i++) {
                numbers[i] = other.numbers[i];
            }
        }
    }

    /** The state that a history keeps, and the changes of it. A change that fails does nothing. */
    private static final class Survey {
        private final Table addressRows;
        private final Table interviewerRows;
        private final Table cellRows;
        private int addressCount;
        private int interviewerCount;
        private int day;
        private int vainLimit;
        private int daysBetween;

        Survey() {
            addressRows = new Table(MOST_ADDRESSES, ADDRESS_COLUMNS);
            interviewerRows = new Table(MOST_INTERVIEWERS, INTERVIEWER_COLUMNS);
            cellRows = new Table(AREAS * GROUPS, CELL_COLUMNS);
            vainLimit = FIRST_VAIN_LIMIT;
            daysBetween = FIRST_DAYS_BETWEEN;
            for (int cell = 0; cell < AREAS * GROUPS; cell++) {
                cellRows.put(cell, CELL_QUOTA, FIRST_QUOTA);
                cellRows.put(cell, CELL_PEOPLE, FIRST_PEOPLE);
            }
        }

        void copyFrom(Survey other) {
            // The rows that are not used yet are copied too, so that they hold zeros always.
            addressRows.copyFrom(other.addressRows);
            interviewerRows.copyFrom(other.interviewerRows);
            cellRows.copyFrom(other.cellRows);
            addressCount = other.addressCount;
            interviewerCount = other.interviewerCount;
            day = other.day;
            vainLimit = other.vainLimit;
            daysBetween = other.daysBetween;
        }

        int addressCount() {
            return addressCount;
        }

        int interviewerCount() {
            return interviewerCount;
        }

        int day() {
            return day;
        }

        int vainLimit() {
            return vainLimit;
        }

        int daysBetween() {
            return daysBetween;
        }

        boolean hasAddress(int address) {
            return isWithin(address, 0, addressCount - 1);
        }

        boolean hasInterviewer(int interviewer) {
            return isWithin(interviewer, 0, interviewerCount - 1);
        }

        int ofAddress(int address, int column) {
            return addressRows.get(address, column);
        }

        int ofInterviewer(int interviewer, int column) {
            return interviewerRows.get(interviewer, column);
        }

        int ofCell(int area, int group, int column) {
            return cellRows.get(area * GROUPS + group, column);
        }

        int wantedIn(int area, int group) {
            int cell = area * GROUPS + group;
            int wanted = cellRows.get(cell, CELL_QUOTA) - cellRows.get(cell, CELL_INTERVIEWS);
            return wanted > 0 ? wanted : 0;
        }

        boolean isOpen(int address) {
            return addressRows.get(address, ADDRESS_OUTCOME) == OPEN;
        }

        boolean hasMeeting(int address) {
            return addressRows.get(address, ADDRESS_MEETING_DAY) != NOT_FOUND;
        }

        boolean isMeetingOver(int address) {
            int meetingDay = addressRows.get(address, ADDRESS_MEETING_DAY);
            return meetingDay != NOT_FOUND && meetingDay < day;
        }

        boolean isPossible(int interviewer, int address, int time) {
            int today = interviewerRows.get(interviewer, INTERVIEWER_TODAY);
            return isOpen(address)
                    && today < interviewerRows.get(interviewer, INTERVIEWER_LOAD)
                    && isTimely(address, time);
        }

        int addAddress(int area) {
            if (!isWithin(area, 0, AREAS - 1)) {
                return INVALID_ARGUMENT;
            }
            if (addressCount >= MOST_ADDRESSES) {
                return LIMIT_REACHED;
            }
            int address = addressCount;
            addressCount++;
            addressRows.put(address, ADDRESS_AREA, area);
            // What is not there is kept as the answer that addressOf gives about it.
            for (int column = ADDRESS_CALL_DAY; column < ADDRESS_COLUMNS; column++) {
                addressRows.put(address, column, NOT_FOUND);
            }
            return address;
        }

        int addInterviewer(int area, int load) {
            if (!isWithin(area, 0, AREAS - 1) || !isWithin(load, 1, MOST_LOAD)) {
                return INVALID_ARGUMENT;
            }
            if (interviewerCount >= MOST_INTERVIEWERS) {
                return LIMIT_REACHED;
            }
            int interviewer = interviewerCount;
            interviewerCount++;
            interviewerRows.put(interviewer, INTERVIEWER_AREA, area);
            interviewerRows.put(interviewer, INTERVIEWER_LOAD, load);
            return interviewer;
        }

        int changeQuota(int area, int group, int many) {
            if (!isCell(area, group) || !isWithin(many, 0, MOST_QUOTA)) {
                return INVALID_ARGUMENT;
            }
            return changeCell(area, group, CELL_QUOTA, many);
        }

        int changePopulation(int area, int group, int people) {
            if (!isCell(area, group) || !isWithin(people, 0, MOST_PEOPLE)) {
                return INVALID_ARGUMENT;
            }
            return changeCell(area, group, CELL_PEOPLE, people);
        }

        int changeSetting(int what, int value) {
            if (what == 0 && isWithin(value, 1, MOST_SETTING)) {
                int before = vainLimit;
                vainLimit = value;
                return before;
            }
            if (what == 1 && isWithin(value, 0, MOST_SETTING)) {
                int before = daysBetween;
                daysBetween = value;
                return before;
            }
            return INVALID_ARGUMENT;
        }

        int passDays(int days) {
            if (!isWithin(days, 1, MOST_DAYS_AT_ONCE)) {
                return INVALID_ARGUMENT;
            }
            if (day + days > LAST_DAY) {
                return LIMIT_REACHED;
            }
            day += days;
            for (int i = 0; i < interviewerCount; i++) {
                interviewerRows.put(i, INTERVIEWER_TODAY, 0);
            }
            return day;
        }

        int makeCall(int interviewer, int address, int time, int what) {
            if (!isCallNamed(interviewer, address, time)
                    || !isWithin(what, NOBODY_IS_THERE, FIRST_INTERVIEW + GROUPS - 1)) {
                return INVALID_ARGUMENT;
            }
            if (!isPossible(interviewer, address, time)) {
                return NOT_POSSIBLE;
            }
            noteCall(interviewer, address, time);
            if (what == NOBODY_IS_THERE) {
                noteVain(address);
            } else if (what == REFUSAL) {
                addressRows.put(address, ADDRESS_OUTCOME, REFUSED);
            } else {
                noteInterview(interviewer, address, what - FIRST_INTERVIEW);
            }
            return addressRows.get(address, ADDRESS_OUTCOME);
        }

        int makeMeeting(int interviewer, int address, int time, int meetingDay, int meetingTime) {
            if (!isCallNamed(interviewer, address, time)
                    || !isWithin(meetingDay, 0, LAST_DAY) || !isTime(meetingTime)) {
                return INVALID_ARGUMENT;
            }
            if (meetingDay <= day || !isPossible(interviewer, address, time)) {
                return NOT_POSSIBLE;
            }
            noteCall(interviewer, address, time);
            addressRows.put(address, ADDRESS_MEETING_DAY, meetingDay);
            addressRows.put(address, ADDRESS_MEETING_TIME, meetingTime);
            return meetings();
        }

        int meetings() {
            int many = 0;
            for (int i = 0; i < addressCount; i++) {
                if (isOpen(i) && hasMeeting(i)) {
                    many++;
                }
            }
            return many;
        }

        private int changeCell(int area, int group, int column, int number) {
            int cell = area * GROUPS + group;
            int before = cellRows.get(cell, column);
            cellRows.put(cell, column, number);
            return before;
        }

        private boolean isCallNamed(int interviewer, int address, int time) {
            return hasInterviewer(interviewer) && hasAddress(address) && isTime(time);
        }

        private boolean isTimely(int address, int time) {
            int meetingDay = addressRows.get(address, ADDRESS_MEETING_DAY);
            if (meetingDay != NOT_FOUND) {
                boolean isItsTime = addressRows.get(address, ADDRESS_MEETING_TIME) == time;
                return meetingDay < day || meetingDay == day && isItsTime;
            }
            if (addressRows.get(address, ADDRESS_CALLS) == 0) {
                return true;
            }
            return addressRows.get(address, ADDRESS_CALL_TIME) != time
                    && day - addressRows.get(address, ADDRESS_CALL_DAY) >= daysBetween;
        }

        private void noteCall(int interviewer, int address, int time) {
            addressRows.increase(address, ADDRESS_CALLS);
            addressRows.put(address, ADDRESS_CALL_DAY, day);
            addressRows.put(address, ADDRESS_CALL_TIME, time);
            addressRows.put(address, ADDRESS_CALLER, interviewer);
            addressRows.put(address, ADDRESS_MEETING_DAY, NOT_FOUND);
            addressRows.put(address, ADDRESS_MEETING_TIME, NOT_FOUND);
            interviewerRows.increase(interviewer, INTERVIEWER_TODAY);
            interviewerRows.increase(interviewer, INTERVIEWER_CALLS);
            int area = addressRows.get(address, ADDRESS_AREA);
            if (interviewerRows.get(interviewer, INTERVIEWER_AREA) != area) {
                interviewerRows.increase(interviewer, INTERVIEWER_TRAVELS);
            }
        }

        private void noteVain(int address) {
            addressRows.increase(address, ADDRESS_VAIN);
            // The limit may have been lowered below the calls in vain, so they can be above it.
            if (addressRows.get(address, ADDRESS_VAIN) >= vainLimit) {
                addressRows.put(address, ADDRESS_OUTCOME, NOT_REACHED);
            }
        }

        private void noteInterview(int interviewer, int address, int group) {
            int area = addressRows.get(address, ADDRESS_AREA);
            if (wantedIn(area, group) == 0) {
                addressRows.put(address, ADDRESS_OUTCOME, NOT_WANTED);
                return;
            }
            addressRows.put(address, ADDRESS_OUTCOME, INTERVIEWED);
            addressRows.put(address, ADDRESS_GROUP, group);
            interviewerRows.increase(interviewer, INTERVIEWER_INTERVIEWS);
            cellRows.increase(area * GROUPS + group, CELL_INTERVIEWS);
        }
    }

    /** What can be asked about a survey: sets, numbers, the next call, the days left, weights. */
    private static final class Overview {
        // Above all the calls that can be made at one address in 1000 days.
        private static final int MANY_CALLS = 1000000;

        private final Survey survey;

        Overview(Survey survey) {
            this.survey = survey;
        }

        int addressesOfKind(int kind) {
            int bits = 0;
            for (int i = 0; i < survey.addressCount(); i++) {
                if (isOfKind(i, kind)) {
                    bits |= 1 << i;
                }
            }
            return bits;
        }

        int number(int what) {
            switch (what) {
                case 0:
                    return survey.addressCount();
                case 1:
                    return survey.interviewerCount();
                case 2:
                    return survey.day();
                case 3:
                    return sumOfAddresses(ADDRESS_CALLS);
                case 4:
                    return sumOfAddresses(ADDRESS_VAIN);
                case 5:
                    return addressesWith(INTERVIEWED);
                case 6:
                    return wantedInAll();
                case 7:
                    return survey.meetings();
                case 10:
                    return survey.vainLimit();
                case 11:
                    return survey.daysBetween();
                default:
                    return INVALID_ARGUMENT;
            }
        }

        int possibleAddresses(int interviewer, int time) {
            int bits = 0;
            for (int i = 0; i < survey.addressCount(); i++) {
                if (survey.isPossible(interviewer, i, time)) {
                    bits |= 1 << i;
                }
            }
            return bits;
        }

        int bestAddress(int interviewer, int time) {
            int best = NOT_FOUND;
            int bestRank = 0;
            for (int i = 0; i < survey.addressCount(); i++) {
                if (survey.isPossible(interviewer, i, time)) {
                    int rank = rankOf(interviewer, i);
                    if (best == NOT_FOUND || rank < bestRank) {
                        best = i;
                        bestRank = rank;
                    }
                }
            }
            return best;
        }

        int daysNeeded() {
            int calls = callsNeeded();
            if (calls == 0) {
                return 0;
            }
            int loads = sumOfInterviewers(INTERVIEWER_LOAD);
            if (loads <= 0) {
                return NOT_FOUND;
            }
            int notToday = calls - (loads - sumOfInterviewers(INTERVIEWER_TODAY));
            if (notToday <= 0) {
                return 1;
            }
            return 1 + (notToday + loads - 1) / loads;
        }

        int rateOfInterviews() {
            int ended = survey.addressCount() - addressesWith(OPEN);
            if (ended <= 0) {
                return NOT_FOUND;
            }
            return bitsOf((float) addressesWith(INTERVIEWED) / (float) ended);
        }

        int weightBits(int area, int group) {
            if (survey.ofCell(area, group, CELL_INTERVIEWS) <= 0) {
                return NOT_FOUND;
            }
            return bitsOf(weightOf(area, group));
        }

        int partOfGroup(int group) {
            float all = 0f;
            for (int g = 0; g < GROUPS; g++) {
                all = addWeights(all, g);
            }
            if (!(all > 0f)) {
                return NOT_FOUND;
            }
            return bitsOf(addWeights(0f, group) / all);
        }

        private boolean isOfKind(int address, int kind) {
            switch (kind) {
                case 5:
                    return survey.isOpen(address) && survey.hasMeeting(address);
                case 6:
                    return survey.isOpen(address) && survey.isMeetingOver(address);
                case 7:
                    return survey.isOpen(address) && survey.ofAddress(address, ADDRESS_CALLS) == 0;
                default:
                    return survey.ofAddress(address, ADDRESS_OUTCOME) == kind;
            }
        }

        private int addressesWith(int outcome) {
            int many = 0;
            for (int i = 0; i < survey.addressCount(); i++) {
                if (survey.ofAddress(i, ADDRESS_OUTCOME) == outcome) {
                    many++;
                }
            }
            return many;
        }

        private int sumOfAddresses(int column) {
            int sum = 0;
            for (int i = 0; i < survey.addressCount(); i++) {
                sum += survey.ofAddress(i, column);
            }
            return sum;
        }

        private int sumOfInterviewers(int column) {
            int sum = 0;
            for (int i = 0; i < survey.interviewerCount(); i++) {
                sum += survey.ofInterviewer(i, column);
            }
            return sum;
        }

        private int wantedInAll() {
            int sum = 0;
            for (int area = 0; area < AREAS; area++) {
                sum += wantedInArea(area);
            }
            return sum;
        }

        private int wantedInArea(int area) {
            int sum = 0;
            for (int group = 0; group < GROUPS; group++) {
                sum += survey.wantedIn(area, group);
            }
            return sum;
        }

        private int callsNeeded() {
            int sum = 0;
            for (int i = 0; i < survey.addressCount(); i++) {
                if (survey.isOpen(i)) {
                    sum += Math.max(1, survey.vainLimit() - survey.ofAddress(i, ADDRESS_VAIN));
                }
            }
            return sum;
        }

        /** The lower the rank, the earlier the call; it is asked only where a call is possible. */
        private int rankOf(int interviewer, int address) {
            int area = survey.ofAddress(address, ADDRESS_AREA);
            int rank = 2;
            if (survey.hasMeeting(address)) {
                rank = survey.isMeetingOver(address) ? 1 : 0;
            }
            boolean isOwnArea = survey.ofInterviewer(interviewer, INTERVIEWER_AREA) == area;
            rank = rank * 2 + (isOwnArea ? 0 : 1);
            rank = rank * 2 + (wantedInArea(area) > 0 ? 0 : 1);
            int calls = survey.ofAddress(address, ADDRESS_CALLS);
            return rank * MANY_CALLS + Math.min(calls, MANY_CALLS - 1);
        }

        private float weightOf(int area, int group) {
            int interviews = survey.ofCell(area, group, CELL_INTERVIEWS);
            if (interviews <= 0) {
                return 0f;
            }
            return (float) survey.ofCell(area, group, CELL_PEOPLE) / (float) interviews;
        }

        private float addWeights(float start, int group) {
            float sum = start;
            for (int area = 0; area < AREAS; area++) {
                float interviews = (float) survey.ofCell(area, group, CELL_INTERVIEWS);
                sum += weightOf(area, group) * interviews;
            }
            return sum;
        }

        /** The bits of a float that is 0 or between 2 to the -100 and 2 to the 100. */
        private static int bitsOf(float number) {
            if (!(number > 0f)) {
                return 0;
            }
            float part = number;
            int exponent = 127;
            for (int i = 0; i < 128 && part >= 2f; i++) {
                part /= 2f;
                exponent++;
            }
            for (int i = 0; i < 128 && part < 1f; i++) {
                part *= 2f;
                exponent--;
            }
            // The leading one of the 24 digits is not kept in the bits of a float.
            return (exponent << 23) + ((int) (part * 8388608f) - 8388608);
        }
    }

    /** The states before the latest changes, in a ring with one slot more for a draft. */
    private static final class History {
        private final Survey[] states;
        private int first;
        private int size;

        History() {
            states = new Survey[MOST_STATES + 1];
            for (int i = 0; i < states.length; i++) {
                states[i] = new Survey();
            }
        }

        int size() {
            return size;
        }

        /** Writes a state down ahead of a change; whether it is kept, settle tells. */
        void draft(Survey survey) {
            Survey slot = stateAt(size);
            if (slot != null) {
                slot.copyFrom(survey);
            }
        }

        /** Keeps the draft if the change has returned no error; hands the answer on. */
        int settle(int answer) {
            if (answer < 0) {
                return answer;
            }
            if (size < MOST_STATES) {
                size++;
            } else {
                first = (first + 1) % (MOST_STATES + 1);
            }
            return answer;
        }

        int restore(Survey survey) {
            if (size <= 0) {
                return NOT_POSSIBLE;
            }
            size--;
            Survey slot = stateAt(size);
            if (slot != null) {
                survey.copyFrom(slot);
            }
            return size;
        }

        private Survey stateAt(int place) {
            int at = (first + place) % (MOST_STATES + 1);
            return at >= 0 && at < states.length ? states[at] : null;
        }
    }

    /** The words with which commands begin, and how many numbers follow each. */
    private enum Verb {
        ADDRESS("address", 1),
        QUOTA("quota", 3),
        NONE("none", 3),
        REFUSE("refuse", 3),
        TAKE("take", 4),
        LATER("later", 5),
        DAY("day", 1);

        private final String word;
        private final int numbers;

        Verb(String word, int numbers) {
            this.word = word;
            this.numbers = numbers;
        }
    }

    /** The text, and the command that was read from it last. */
    private static final class Script {
        private static final Verb[] VERBS = Verb.values();

        private final char[] characters;
        private final int[] numbers;
        private int length;
        private Verb verb;
        private int position;

        Script() {
            characters = new char[MOST_CHARACTERS];
            numbers = new int[MOST_NUMBERS];
        }

        int length() {
            return length;
        }

        int append(int character) {
            if (!isWithin(character, FIRST_CHARACTER, LAST_CHARACTER)) {
                return INVALID_ARGUMENT;
            }
            if (length < 0 || length >= characters.length) {
                return LIMIT_REACHED;
            }
            characters[length] = (char) character;
            length++;
            return length;
        }

        int clear() {
            int before = length;
            length = 0;
            return before;
        }

        Verb verb() {
            return verb;
        }

        int number(int which) {
            return which >= 0 && which < numbers.length ? numbers[which] : 0;
        }

        /** Where the reading stands: behind the last command, if that was of the form. */
        int position() {
            return position;
        }

        /** Reads the command that begins at a place; tells whether it is of the form. */
        boolean readCommand(int start) {
            position = start;
            verb = verbAt(start);
            if (verb == null) {
                return false;
            }
            position += verb.word.length();
            for (int i = 0; i < verb.numbers && i < numbers.length; i++) {
                if (!readSign(' ') || !readNumber(i)) {
                    return false;
                }
            }
            return readSign(';');
        }

        private Verb verbAt(int start) {
            for (int i = 0; i < VERBS.length; i++) {
                Verb candidate = VERBS[i];
                if (candidate != null && hasWordAt(start, candidate.word)) {
                    return candidate;
                }
            }
            return null;
        }

        private boolean hasWordAt(int start, String word) {
            for (int i = 0; i < word.length(); i++) {
                if (signAt(start + i) != word.charAt(i)) {
                    return false;
                }
            }
            return true;
        }

        private boolean readSign(char sign) {
            if (signAt(position) != sign) {
                return false;
            }
            position++;
            return true;
        }

        private boolean readNumber(int which) {
            int number = 0;
            int digits = 0;
            while (digits < MOST_DIGITS && isWithin(signAt(position), '0', '9')) {
                number = number * 10 + (signAt(position) - '0');
                digits++;
                position++;
            }
            if (which >= 0 && which < numbers.length) {
                numbers[which] = number;
            }
            return digits > 0;
        }

        /** The character at a place, and one that no text holds where there is none. */
        private char signAt(int place) {
            boolean isThere = place >= 0 && place < length && place < characters.length;
            return isThere ? characters[place] : (char) 0;
        }
    }

    /** Does the commands of a text on a copy of a survey, as far as they are possible. */
    private static final class Rehearsal {
        private final Script script;
        private final Survey trial;
        private int commands;
        private int position;
        private int reason;

        Rehearsal(Script script) {
            this.script = script;
            this.trial = new Survey();
        }

        void run(Survey survey) {
            trial.copyFrom(survey);
            commands = 0;
            position = 0;
            reason = NO_REASON;
            // Each command takes characters of the text, so there are fewer than those.
            for (int i = 0; i < MOST_CHARACTERS && position < script.length(); i++) {
                if (!script.readCommand(position)) {
                    reason = NOT_OF_THE_FORM;
                    return;
                }
                int answer = answerOf(script.verb());
                if (answer < 0) {
                    reason = answer == INVALID_ARGUMENT ? WRONG_ARGUMENT : OTHER_ERROR;
                    return;
                }
                commands++;
                position = script.position();
            }
        }

        boolean hasFault() {
            return reason != NO_REASON;
        }

        int position() {
            return position;
        }

        int reason() {
            return reason;
        }

        int commands() {
            return commands;
        }

        void copyTo(Survey survey) {
            survey.copyFrom(trial);
        }

        private int answerOf(Verb verb) {
            if (verb == null) {
                return NOT_POSSIBLE;
            }
            int first = script.number(0);
            int second = script.number(1);
            int third = script.number(2);
            switch (verb) {
                case ADDRESS:
                    return trial.addAddress(first);
                case QUOTA:
                    return trial.changeQuota(first, second, third);
                case NONE:
                    return trial.makeCall(first, second, third, NOBODY_IS_THERE);
                case REFUSE:
                    return trial.makeCall(first, second, third, REFUSAL);
                case TAKE:
                    return trial.makeCall(first, second, third, FIRST_INTERVIEW + script.number(3));
                case LATER:
                    return trial.makeMeeting(
                            first, second, third, script.number(3), script.number(4));
                case DAY:
                    return trial.passDays(first);
                default:
                    return NOT_POSSIBLE;
            }
        }
    }
}
