/** What several tests use: the error codes, objects to begin with, and everything that an object tells. */
abstract class Scenes {
    static final int INVALID = -1;
    static final int IMPOSSIBLE = -2;
    static final int LIMIT = -3;
    static final int MISSING = -4;

    static void due(String what, long got, long want) {
        Check.due(what, got, want);
    }

    static void type(PledgeTips x, String text) {
        for (int i = 0; i < text.length(); i++) {
            x.type(text.charAt(i));
        }
    }

    static void retype(PledgeTips x, String text) {
        x.clearText();
        type(x, text);
    }

    /** Types the text anew; a position of NOT_FOUND is for no fault. */
    static void dueFault(String text, PledgeTips x, int position, int reason, int cause) {
        retype(x, text);
        due("17: fault(0) of " + text, x.fault(0), position);
        due("17: fault(1) of " + text, x.fault(1), reason);
        due("17: fault(2) of " + text, x.fault(2), cause);
        due("18: play() of " + text, x.play() < 0 ? IMPOSSIBLE : 0, position >= 0 ? IMPOSSIBLE : 0);
    }

    /** Projects with these goals, and persons with purses of 999. */
    static PledgeTips with(int persons, int... goals) {
        PledgeTips x = new PledgeTips();
        for (int goal : goals) {
            x.project(goal);
        }
        for (int i = 0; i < persons; i++) {
            x.person(999);
        }
        return x;
    }

    /** 0 holds 1, 0 and 1 together hold 2, and 2 holds 3; all for project 0, which needs each of them. */
    static PledgeTips chain() {
        PledgeTips x = with(4, 20, 5);
        x.pledge(0, 0, 5, 0, 0);
        x.pledge(1, 0, 6, 1, 5);
        x.pledge(2, 0, 7, 1, 11);
        x.pledge(3, 0, 2, 3, 2);
        return x;
    }

    /** All places taken: 4 projects, of which number 3 is closed, 8 persons, 12 pledges, 4 states, 80 characters. */
    static PledgeTips full() {
        PledgeTips x = with(8, 20, 30, 999, 7);
        x.pledge(7, 3, 9, 0, 0);
        x.callIn(3);
        for (int i = 0; i < 11; i++) {
            x.pledge(i % 7, i % 3, 10 + i, 0, 0);
        }
        type(x, "w1;w2;w3;w4;w5;p7,0,1,0,0;p7,0,1,0,0;p7,0,1,0,0;p7,0,1,0,0;p7,0,001,0,0;h099;g5;");
        return x;
    }

    /** The answers of all questions about it; 263 calls. */
    static String told(PledgeTips x) {
        StringBuilder told = new StringBuilder();
        for (int what = 0; what <= 12; what++) {
            told.append(" count").append(what).append('=').append(x.count(what));
        }
        for (int what = 0; what <= 9; what++) {
            for (int project = 0; project < 4; project++) {
                told.append(" project").append(project).append('.').append(what).append('=');
                told.append(x.projectOf(project, what));
            }
            for (int pledge = 0; pledge < 12; pledge++) {
                told.append(" pledge").append(pledge).append('.').append(what).append('=');
                told.append(x.pledgeOf(pledge, what));
            }
        }
        for (int person = 0; person < 8; person++) {
            for (int what = 0; what <= 5; what++) {
                told.append(" person").append(person).append('.').append(what).append('=');
                told.append(x.personOf(person, what));
            }
        }
        for (int place = 0; place <= 12; place++) {
            for (int order = 0; order <= 2; order++) {
                told.append(" order").append(order).append('.').append(place).append('=');
                told.append(x.orderAt(order, place));
            }
        }
        for (int what = 0; what <= 2; what++) {
            told.append(" fault").append(what).append('=').append(x.fault(what));
        }
        return told.toString();
    }
}
