/** All that can be seen of an object, in fewer calls than an object is used for. */
final class Snapshot {
    private Snapshot() {
    }

    static String of(FieldQuotas x) {
        StringBuilder all = new StringBuilder();
        all.append("counts");
        for (int what = 0; what <= 11; what++) {
            all.append(' ').append(x.count(what));
        }
        appendAddresses(all, x);
        appendInterviewers(all, x);
        appendCells(all, x);
        all.append(" days ").append(x.daysLeft()).append(" rate ").append(x.rateBits());
        all.append(" parts ").append(x.partBits(0)).append(' ').append(x.partBits(1));
        all.append(' ').append(x.partBits(2));
        all.append(" fault ").append(x.fault(0)).append(' ').append(x.fault(1));
        return all.toString();
    }

    /** What the states of the history hold, in short; they are undone for it. */
    static String ofHistory(FieldQuotas x) {
        StringBuilder all = new StringBuilder();
        int left = x.count(8);
        for (int i = 0; i <= 4; i++) {
            for (int what = 0; what <= 11; what++) {
                all.append(' ').append(x.count(what));
            }
            for (int what = 0; what <= 7; what++) {
                all.append(' ').append(x.addresses(what));
            }
            for (int cell = 0; cell < 12; cell++) {
                all.append(' ').append(x.cellOf(cell / 3, cell % 3, 0));
                all.append(' ').append(x.cellOf(cell / 3, cell % 3, 3));
            }
            all.append(" | ").append(x.undo());
        }
        return all.append(" of ").append(left).toString();
    }

    private static void appendAddresses(StringBuilder all, FieldQuotas x) {
        for (int what = 0; what <= 7; what++) {
            all.append(' ').append(x.addresses(what));
        }
        int many = x.count(0);
        for (int address = 0; address < many; address++) {
            all.append(" a").append(address);
            for (int what = 0; what <= 9; what++) {
                all.append(' ').append(x.addressOf(address, what));
            }
        }
    }

    private static void appendInterviewers(StringBuilder all, FieldQuotas x) {
        int many = x.count(1);
        for (int interviewer = 0; interviewer < many; interviewer++) {
            all.append(" i").append(interviewer);
            for (int what = 0; what <= 5; what++) {
                all.append(' ').append(x.interviewerOf(interviewer, what));
            }
            for (int time = 0; time <= 2; time++) {
                all.append(' ').append(x.next(interviewer, time));
                all.append(' ').append(x.possible(interviewer, time));
            }
        }
    }

    private static void appendCells(StringBuilder all, FieldQuotas x) {
        for (int cell = 0; cell < 12; cell++) {
            all.append(" c").append(cell);
            for (int what = 0; what <= 4; what++) {
                all.append(' ').append(x.cellOf(cell / 3, cell % 3, what));
            }
        }
    }
}
