/** Objects in states from which the tests of boundaries begin. */
final class Made {
    static final int ALL_ADDRESSES = (1 << 24) - 1;

    private Made() {
    }

    /** Interviewers of the areas 0 and 1 with the load 9, and an address in each area. */
    static FieldQuotas field() {
        FieldQuotas x = new FieldQuotas();
        x.interviewer(0, 9);
        x.interviewer(1, 9);
        for (int area = 0; area < 4; area++) {
            x.address(area);
        }
        return x;
    }

    /** As many addresses in the area 0, and one interviewer of it with the load 9. */
    static FieldQuotas houses(int many) {
        FieldQuotas x = new FieldQuotas();
        x.interviewer(0, 9);
        for (int i = 0; i < many; i++) {
            x.address(0);
        }
        return x;
    }

    /** Addresses in these areas, and one interviewer of the area 0 with the load 9. */
    static FieldQuotas housesIn(int... areas) {
        FieldQuotas x = new FieldQuotas();
        x.interviewer(0, 9);
        for (int area : areas) {
            x.address(area);
        }
        return x;
    }

    /** Five interviewers with the load 9, so that all 24 addresses can be called at in a day. */
    static FieldQuotas full() {
        FieldQuotas x = new FieldQuotas();
        for (int i = 0; i < 5; i++) {
            x.interviewer(i % 4, 9);
        }
        for (int i = 0; i < 24; i++) {
            x.address(i % 4);
        }
        return x;
    }

    /** Lets more days go by than one call can. */
    static void passTo(FieldQuotas x, int day) {
        for (int left = day - x.count(2); left > 0; left -= 99) {
            x.pass(Math.min(99, left));
        }
    }

    static FieldQuotas fieldOnDay(int day) {
        FieldQuotas x = field();
        passTo(x, day);
        return x;
    }

    static FieldQuotas fieldWith(String text) {
        FieldQuotas x = field();
        Due.write(x, text);
        return x;
    }

    static void fillQuotas(FieldQuotas x, int area) {
        for (int group = 0; group < 3; group++) {
            x.quota(area, group, 0);
        }
    }

    /** An address of each outcome: 0 open, 1 interviewed, 2 refused, 3 not reached, 4 not wanted. */
    static FieldQuotas outcomes() {
        FieldQuotas x = houses(5);
        x.quota(0, 1, 0);
        x.set(0, 1);
        x.call(0, 1, 0, 2);
        x.call(0, 2, 0, 1);
        x.call(0, 3, 0, 0);
        x.call(0, 4, 0, 3);
        return x;
    }
}
