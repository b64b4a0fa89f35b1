/** Promises 2 to 14: arguments at their bounds and beyond them, and which error is returned where several apply. */
final class ArgumentTests extends Scenes {
    /** Far beyond most bounds; 32 is for shifts, which take it for 0. */
    private static final int[] FAR = {Integer.MIN_VALUE, -1000, -32, 32, 1000, 65536, Integer.MAX_VALUE};

    private ArgumentTests() {
    }

    static void run() {
        goals();
        purses();
        personsOfPledges();
        projectsOfPledges();
        amounts();
        kinds();
        valuesOfKinds();
        errorsOfPledge();
        withdraw();
        callIn();
        pledgeOfNumbers();
        pledgeOfWhats();
        fallsAndToppling();
        projectOfNumbers();
        projectOfWhats();
        projectWithoutPledges();
        personOfNumbers();
        personOfWhats();
        personWithoutPledges();
        toppledByPersons();
        standingOfSets();
        setOfSets();
        setOfWhats();
        orderArguments();
        orderPlaces();
        orderAtTheLastNumbers();
        orderTies();
        countWhats();
        countsAtTheirEnds();
    }

    /** "goal: 1 to 999"; "INVALID_ARGUMENT if goal is out of range; LIMIT_REACHED if there are 4". */
    private static void goals() {
        PledgeTips x = new PledgeTips();
        PledgeTips taken = with(0, 1, 1, 1, 1);
        int[] wrong = {0, -1, 1000, 1001};
        for (int goal : wrong) {
            due("2: goal " + goal, x.project(goal), INVALID);
            due("2: goal " + goal + " and no place", taken.project(goal), INVALID);
        }
        for (int goal : FAR) {
            due("2: goal " + goal, x.project(goal), goal == 32 ? 0 : INVALID);
        }
        due("2: the greatest goal and no place", taken.project(999), LIMIT);
        due("2: the least goal and no place", taken.project(1), LIMIT);
        due("2: the greatest goal", x.project(999), 1);
        due("2: the least goal", x.project(1), 2);
    }

    /** "purse: 0 to 999"; "INVALID_ARGUMENT if purse is out of range; LIMIT_REACHED if there are 8". */
    private static void purses() {
        PledgeTips x = new PledgeTips();
        PledgeTips taken = with(8);
        int[] wrong = {-1, -2, 1000, 1001};
        for (int purse : wrong) {
            due("3: purse " + purse, x.person(purse), INVALID);
            due("3: purse " + purse + " and no place", taken.person(purse), INVALID);
        }
        for (int purse : FAR) {
            due("3: purse " + purse, x.person(purse), purse == 32 ? 0 : INVALID);
        }
        due("3: the greatest purse and no place", taken.person(999), LIMIT);
        due("3: the least purse and no place", taken.person(0), LIMIT);
        due("3: the greatest purse", x.person(999), 1);
        due("3: the least purse", x.person(0), 2);
    }

    private static void personsOfPledges() {
        due("4: nothing is there", new PledgeTips().pledge(0, 0, 1, 0, 0), INVALID);
        due("4: no person is there", with(0, 5).pledge(0, 0, 1, 0, 0), INVALID);
        PledgeTips x = with(8, 5);
        due("4: person -1", x.pledge(-1, 0, 1, 0, 0), INVALID);
        due("4: person 8", x.pledge(8, 0, 1, 0, 0), INVALID);
        for (int person : FAR) {
            due("4: person " + person, x.pledge(person, 0, 1, 0, 0), INVALID);
        }
        due("4: person 0", x.pledge(0, 0, 1, 0, 0), 0);
        due("4: person 7", x.pledge(7, 0, 1, 0, 0), 1);
        PledgeTips y = with(3, 5);
        due("4: person 3 of three", y.pledge(3, 0, 1, 0, 0), INVALID);
        due("4: person 2 of three", y.pledge(2, 0, 1, 0, 0), 0);
        y.undo();
        y.undo();
        due("4: person 2 that was undone", y.pledge(2, 0, 1, 0, 0), INVALID);
    }

    private static void projectsOfPledges() {
        due("4: no project is there", with(1).pledge(0, 0, 1, 0, 0), INVALID);
        PledgeTips x = with(1, 5, 5, 5, 5);
        due("4: project -1", x.pledge(0, -1, 1, 0, 0), INVALID);
        due("4: project 4", x.pledge(0, 4, 1, 0, 0), INVALID);
        for (int project : FAR) {
            due("4: project " + project, x.pledge(0, project, 1, 0, 0), INVALID);
        }
        due("4: project 0", x.pledge(0, 0, 1, 0, 0), 0);
        due("4: project 3", x.pledge(0, 3, 1, 0, 0), 1);
        due("4: project 2 of two", with(1, 5, 5).pledge(0, 2, 1, 0, 0), INVALID);
    }

    /** "amount: 1 to 999". */
    private static void amounts() {
        PledgeTips x = with(2, 5);
        int[] wrong = {0, -1, 1000, 1001, Integer.MIN_VALUE, Integer.MAX_VALUE};
        for (int amount : wrong) {
            due("4: amount " + amount, x.pledge(0, 0, amount, 0, 0), INVALID);
        }
        due("4: the least amount", x.pledge(0, 0, 1, 0, 0), 0);
        due("4: the greatest amount", x.pledge(1, 0, 999, 0, 0), 1);
        due("4: the greatest amount, and something in the purse", x.pledge(0, 0, 999, 0, 0), IMPOSSIBLE);
        due("4: what is left", x.pledge(0, 0, 998, 0, 0), 2);
    }

    /** "kind: 0 to 4". */
    private static void kinds() {
        PledgeTips x = with(2, 5, 5);
        for (int value = -1; value <= 5; value++) {
            due("4: kind -1, value " + value, x.pledge(0, 0, 1, -1, value), INVALID);
            due("4: kind 5, value " + value, x.pledge(0, 0, 1, 5, value), INVALID);
        }
        for (int kind : FAR) {
            due("4: kind " + kind, x.pledge(0, 0, 1, kind, 1), INVALID);
        }
        for (int kind = 0; kind <= 4; kind++) {
            due("4: kind " + kind, x.pledge(0, 0, 1, kind, kind == 0 ? 0 : 1), kind);
            due("7: kind " + kind, x.pledgeOf(kind, 3), kind);
        }
    }

    /** "value: as the kind tells: 0; 1 to 999; 1 to 11; number of another person; number of another project". */
    private static void valuesOfKinds() {
        int[] least = {0, 1, 1, 0, 0};
        int[] greatest = {0, 999, 11, 2, 1};
        for (int kind = 0; kind <= 4; kind++) {
            PledgeTips x = with(4, 5, 5, 5);
            String what = "4: kind " + kind + ", value ";
            int person = 3;
            int project = 2;
            due(what + "too small", x.pledge(person, project, 1, kind, least[kind] - 1), INVALID);
            due(what + "itself, or too large", x.pledge(person, project, 1, kind, greatest[kind] + 1), INVALID);
            due(what + "too large", x.pledge(person, project, 1, kind, kind < 3 ? 1000 : greatest[kind] + 2), INVALID);
            for (int value : FAR) {
                boolean fits = kind == 1 && value == 32;
                due(what + value, x.pledge(person, project, 1, kind, value), fits ? 0 : INVALID);
            }
            x.withdraw(0);
            due(what + "least", x.pledge(person, project, 1, kind, least[kind]), 0);
            due(what + "greatest", x.pledge(person, project, 1, kind, greatest[kind]), 1);
            due("7: least value of kind " + kind, x.pledgeOf(0, 4), least[kind]);
            due("7: greatest value of kind " + kind, x.pledgeOf(1, 4), greatest[kind]);
        }
        PledgeTips x = with(4, 5, 5, 5);
        due("4: kind 3, person 0 of itself", x.pledge(0, 0, 1, 3, 0), INVALID);
        due("4: kind 3, the last person", x.pledge(0, 0, 1, 3, 3), 0);
        due("4: kind 4, project 0 of itself", x.pledge(0, 0, 1, 4, 0), INVALID);
        due("4: kind 4, the last project", x.pledge(0, 0, 1, 4, 2), 1);
        due("4: kind 3, the number of the project", x.pledge(1, 0, 1, 3, 0), 2);
        due("4: kind 4, the number of the person", x.pledge(1, 0, 1, 4, 1), 3);
    }

    /** "INVALID_ARGUMENT is returned rather than NOT_POSSIBLE, NOT_POSSIBLE rather than LIMIT_REACHED". */
    private static void errorsOfPledge() {
        PledgeTips x = full();
        due("4: closed, too dear, no place, and person 8", x.pledge(8, 3, 999, 0, 0), INVALID);
        due("4: closed, too dear, no place, and amount 1000", x.pledge(0, 3, 1000, 0, 0), INVALID);
        due("4: closed, too dear, no place, and kind 5", x.pledge(0, 3, 999, 5, 0), INVALID);
        due("4: closed, too dear, no place, and a wrong value", x.pledge(0, 3, 999, 4, 3), INVALID);
        due("4: too dear, no place, and project 4", x.pledge(0, 4, 999, 0, 0), INVALID);
        due("4: closed, too dear, no place", x.pledge(0, 3, 999, 0, 0), IMPOSSIBLE);
        due("4: closed, no place", x.pledge(7, 3, 1, 0, 0), IMPOSSIBLE);
        due("4: too dear, no place", x.pledge(7, 0, 991, 0, 0), IMPOSSIBLE);
        due("4: no place, the whole purse", x.pledge(7, 0, 990, 0, 0), LIMIT);
        due("4: no place, and person -1", x.pledge(-1, 0, 1, 0, 0), INVALID);
        x.withdraw(1);
        due("4: a place, but closed", x.pledge(7, 3, 1, 0, 0), IMPOSSIBLE);
        due("4: a place, but too dear", x.pledge(7, 0, 991, 0, 0), IMPOSSIBLE);
        due("4: a place", x.pledge(7, 0, 990, 0, 0), 1);
    }

    private static void withdraw() {
        due("5: nothing is there", new PledgeTips().withdraw(0), INVALID);
        PledgeTips x = full();
        due("5: pledge -1", x.withdraw(-1), INVALID);
        due("5: pledge 12", x.withdraw(12), INVALID);
        for (int pledge : FAR) {
            due("5: pledge " + pledge, x.withdraw(pledge), INVALID);
        }
        due("5: a called one", x.withdraw(0), IMPOSSIBLE);
        due("5: pledge 1", x.withdraw(1), 2);
        due("5: pledge 11", x.withdraw(11), 2048);
        due("5: pledge 11 is not there any more", x.withdraw(11), INVALID);
        due("13: two were withdrawn", x.count(9), 2);
    }

    private static void callIn() {
        due("6: nothing is there", new PledgeTips().callIn(0), INVALID);
        PledgeTips x = full();
        due("6: project -1", x.callIn(-1), INVALID);
        due("6: project 4", x.callIn(4), INVALID);
        for (int project : FAR) {
            due("6: project " + project, x.callIn(project), INVALID);
        }
        due("6: it is closed", x.callIn(3), IMPOSSIBLE);
        due("6: it has not its goal", x.callIn(2), IMPOSSIBLE);
        due("6: project 0", x.callIn(0), 58);
        due("6: project 1", x.callIn(1), 62);
        due("13: the money of three", x.count(10), 129);
        PledgeTips y = with(1, 5);
        due("6: no pledges", y.callIn(0), IMPOSSIBLE);
        due("6: project 1 of one", y.callIn(1), INVALID);
    }

    private static void pledgeOfNumbers() {
        due("7: nothing is there", new PledgeTips().pledgeOf(0, 0), INVALID);
        PledgeTips x = full();
        for (int what = 0; what <= 9; what++) {
            due("7: pledge -1, what " + what, x.pledgeOf(-1, what), INVALID);
            due("7: pledge 12, what " + what, x.pledgeOf(12, what), INVALID);
        }
        for (int pledge : FAR) {
            due("7: pledge " + pledge, x.pledgeOf(pledge, 0), INVALID);
        }
        due("7: pledge 0", x.pledgeOf(0, 2), 9);
        due("7: pledge 11", x.pledgeOf(11, 2), 20);
        x.withdraw(5);
        for (int what = 0; what <= 9; what++) {
            due("7: one that was withdrawn, what " + what, x.pledgeOf(5, what), INVALID);
        }
        due("7: the one ahead of it", x.pledgeOf(4, 2), 13);
        due("7: the one behind it", x.pledgeOf(6, 2), 15);
    }

    private static void pledgeOfWhats() {
        PledgeTips x = full();
        for (int pledge = -1; pledge <= 12; pledge++) {
            due("7: what -1 of " + pledge, x.pledgeOf(pledge, -1), INVALID);
            due("7: what 10 of " + pledge, x.pledgeOf(pledge, 10), INVALID);
        }
        for (int what : FAR) {
            due("7: what " + what, x.pledgeOf(1, what), INVALID);
        }
        int[] called = {7, 3, 9, 0, 0, 1, 1, MISSING, 0, IMPOSSIBLE};
        int[] last = {3, 1, 20, 0, 0, 0, 1, MISSING, 11, 0};
        for (int what = 0; what <= 9; what++) {
            due("7: called, what " + what, x.pledgeOf(0, what), called[what]);
            due("7: the last one, what " + what, x.pledgeOf(11, what), last[what]);
        }
    }

    /** "NOT_FOUND for 7 if it stands; NOT_POSSIBLE for 9 if it is called", and 9 tells it "itself left out". */
    private static void fallsAndToppling() {
        PledgeTips x = chain();
        int[] topples = {14, 12, 8, 0};
        for (int pledge = 0; pledge < 4; pledge++) {
            due("7: stands, what 7 of " + pledge, x.pledgeOf(pledge, 7), MISSING);
            due("7: what 9 of " + pledge, x.pledgeOf(pledge, 9), topples[pledge]);
        }
        x.withdraw(0);
        for (int pledge = 1; pledge < 4; pledge++) {
            due("7: falls, what 7 of " + pledge, x.pledgeOf(pledge, 7), pledge == 2 ? 1 : 2);
            due("7: falls, what 9 of " + pledge, x.pledgeOf(pledge, 9), 0);
        }
        x.undo();
        x.callIn(0);
        for (int pledge = 0; pledge < 4; pledge++) {
            due("7: called, what 7 of " + pledge, x.pledgeOf(pledge, 7), MISSING);
            due("7: called, what 9 of " + pledge, x.pledgeOf(pledge, 9), IMPOSSIBLE);
            due("7: called, what 10 of " + pledge, x.pledgeOf(pledge, 10), INVALID);
        }
    }

    private static void projectOfNumbers() {
        due("8: nothing is there", new PledgeTips().projectOf(0, 0), INVALID);
        PledgeTips x = full();
        for (int what = 0; what <= 9; what++) {
            due("8: project -1, what " + what, x.projectOf(-1, what), INVALID);
            due("8: project 4, what " + what, x.projectOf(4, what), INVALID);
        }
        for (int project : FAR) {
            due("8: project " + project, x.projectOf(project, 0), INVALID);
        }
        int[] goals = {20, 30, 999, 7};
        for (int project = 0; project < 4; project++) {
            due("8: goal of " + project, x.projectOf(project, 0), goals[project]);
        }
        due("8: project 1 of one", with(0, 5).projectOf(1, 0), INVALID);
    }

    private static void projectOfWhats() {
        PledgeTips x = full();
        for (int project = -1; project <= 4; project++) {
            due("8: what -1 of " + project, x.projectOf(project, -1), INVALID);
            due("8: what 10 of " + project, x.projectOf(project, 10), INVALID);
        }
        for (int what : FAR) {
            due("8: what " + what, x.projectOf(0, what), INVALID);
        }
        int[] closed = {7, 9, 9, 1, 1, 1, 1, 0, 0, MISSING};
        int[] reached = {30, 62, 62, 1, 0, 2340, 2340, 8, 0, 0};
        int[] missed = {999, 45, 45, 0, 0, 584, 584, MISSING, MISSING, 954};
        for (int what = 0; what <= 9; what++) {
            due("8: closed, what " + what, x.projectOf(3, what), closed[what]);
            due("8: with its goal, what " + what, x.projectOf(1, what), reached[what]);
            due("8: without its goal, what " + what, x.projectOf(2, what), missed[what]);
        }
    }

    private static void projectWithoutPledges() {
        PledgeTips x = with(0, 5);
        int[] none = {5, 0, 0, 0, 0, 0, 0, MISSING, MISSING, 5};
        for (int what = 0; what <= 9; what++) {
            due("8: without pledges, what " + what, x.projectOf(0, what), none[what]);
        }
    }

    private static void personOfNumbers() {
        due("9: nothing is there", new PledgeTips().personOf(0, 0), INVALID);
        PledgeTips x = full();
        for (int what = 0; what <= 5; what++) {
            due("9: person -1, what " + what, x.personOf(-1, what), INVALID);
            due("9: person 8, what " + what, x.personOf(8, what), INVALID);
        }
        for (int person : FAR) {
            due("9: person " + person, x.personOf(person, 0), INVALID);
        }
        due("9: person 0", x.personOf(0, 4), 258);
        due("9: person 7", x.personOf(7, 4), 1);
        due("9: person 2 of two", with(2).personOf(2, 0), INVALID);
    }

    private static void personOfWhats() {
        PledgeTips x = full();
        for (int person = -1; person <= 8; person++) {
            due("9: what -1 of " + person, x.personOf(person, -1), INVALID);
            due("9: what 6 of " + person, x.personOf(person, 6), INVALID);
        }
        for (int what : FAR) {
            due("9: what " + what, x.personOf(0, what), INVALID);
        }
        int[] first = {999, 27, 27, 0, 258, 0};
        int[] last = {990, 0, 0, 9, 1, 0};
        for (int what = 0; what <= 5; what++) {
            due("9: the first person, what " + what, x.personOf(0, what), first[what]);
            due("9: the last person, what " + what, x.personOf(7, what), last[what]);
        }
    }

    private static void personWithoutPledges() {
        PledgeTips x = new PledgeTips();
        x.person(0);
        for (int what = 0; what <= 5; what++) {
            due("9: without anything, what " + what, x.personOf(0, what), 0);
        }
    }

    /** "how many pledges of others stand, and would not if all open ones of this person were withdrawn". */
    private static void toppledByPersons() {
        PledgeTips x = chain();
        int[] topples = {3, 2, 1, 0};
        for (int person = 0; person < 4; person++) {
            due("9: what 5 of " + person, x.personOf(person, 5), topples[person]);
        }
        x.pledge(0, 1, 1, 3, 1);
        due("9: one's own does not count", x.personOf(0, 5), 3);
        due("9: another one counts", x.personOf(1, 5), 3);
        x.pledge(1, 0, 6, 0, 0);
        due("9: all of them are withdrawn at once", x.personOf(1, 5), 3);
        due("9: those that fall anyway do not count", x.personOf(3, 5), 0);
        x.callIn(0);
        due("9: called ones are not withdrawn", x.personOf(1, 5), 0);
        x = with(8, 5);
        x.pledge(0, 0, 1, 0, 0);
        for (int i = 1; i < 12; i++) {
            x.pledge(1 + i % 7, 0, 1, 3, 0);
        }
        due("9: eleven of others", x.personOf(0, 5), 11);
    }

    /** "INVALID_ARGUMENT if without has a bit for no pledge; NOT_POSSIBLE if one of these is called". */
    private static void standingOfSets() {
        PledgeTips none = new PledgeTips();
        due("10: nothing is there", none.standing(1), INVALID);
        due("10: the empty set of nothing", none.standing(0), 0);
        PledgeTips x = full();
        due("10: the empty set", x.standing(0), 4095);
        due("10: one behind the last bit", x.standing(4096), INVALID);
        due("10: that and all others", x.standing(8191), INVALID);
        due("10: -1", x.standing(-1), INVALID);
        due("10: the sign alone", x.standing(Integer.MIN_VALUE), INVALID);
        due("10: the greatest number", x.standing(Integer.MAX_VALUE), INVALID);
        due("10: the called one", x.standing(1), IMPOSSIBLE);
        due("10: the called one and all open ones", x.standing(4095), IMPOSSIBLE);
        due("10: the called one and none", x.standing(4097), INVALID);
        due("10: all open ones", x.standing(4094), 1);
        due("10: the last one", x.standing(2048), 2047);
        x.withdraw(5);
        due("10: one that is not there any more", x.standing(32), INVALID);
        due("10: that and a called one", x.standing(33), INVALID);
        due("10: those around it", x.standing(80), 4095 - 32 - 80);
        PledgeTips y = chain();
        y.pledge(0, 1, 1, 1, 5);
        due("10: one that falls anyway", y.standing(16), 15);
    }

    /** "INVALID_ARGUMENT if set has a bit for no pledge ..; NOT_POSSIBLE if one of them is called". */
    private static void setOfSets() {
        PledgeTips none = new PledgeTips();
        PledgeTips x = full();
        for (int what = 0; what <= 2; what++) {
            due("11: nothing is there, what " + what, none.setOf(1, what), INVALID);
            due("11: the empty set of nothing, what " + what, none.setOf(0, what), what == 0 ? 1 : 0);
            due("11: the empty set, what " + what, x.setOf(0, what), what == 0 ? 1 : 0);
            due("11: one behind the last bit, what " + what, x.setOf(4096, what), INVALID);
            due("11: -1, what " + what, x.setOf(-1, what), INVALID);
            due("11: the sign, what " + what, x.setOf(Integer.MIN_VALUE, what), INVALID);
            due("11: the greatest number, what " + what, x.setOf(Integer.MAX_VALUE, what), INVALID);
            due("11: the called one, what " + what, x.setOf(1, what), IMPOSSIBLE);
            due("11: all with the called one, what " + what, x.setOf(4095, what), IMPOSSIBLE);
            due("11: the called one and none, what " + what, x.setOf(4097, what), INVALID);
        }
        int[] all = {1, 0, 4094};
        int[] last = {1, 0, 2048};
        for (int what = 0; what <= 2; what++) {
            due("11: all open ones, what " + what, x.setOf(4094, what), all[what]);
            due("11: the last one, what " + what, x.setOf(2048, what), last[what]);
        }
        x.withdraw(5);
        due("11: one that is not there any more", x.setOf(32, 0), INVALID);
        due("11: those around it", x.setOf(80, 2), 80);
    }

    private static void setOfWhats() {
        PledgeTips x = full();
        for (int set : new int[] {0, 1, 2, 4096, -1}) {
            due("11: what -1 of " + set, x.setOf(set, -1), INVALID);
            due("11: what 3 of " + set, x.setOf(set, 3), INVALID);
        }
        for (int what : FAR) {
            due("11: what " + what, x.setOf(0, what), INVALID);
        }
        PledgeTips y = chain();
        int[] sets = {1, 2, 3, 4, 8, 12, 13, 14, 15};
        int[] holds = {1, 0, 1, 0, 0, 0, 0, 0, 1};
        int[] fails = {0, 2, 0, 4, 8, 4, 4, 4, 0};
        int[] greatest = {1, 0, 3, 0, 0, 0, 1, 0, 15};
        for (int i = 0; i < sets.length; i++) {
            due("11: what 0 of " + sets[i], y.setOf(sets[i], 0), holds[i]);
            due("11: what 1 of " + sets[i], y.setOf(sets[i], 1), fails[i]);
            due("11: what 2 of " + sets[i], y.setOf(sets[i], 2), greatest[i]);
        }
    }

    /** "INVALID_ARGUMENT if order is out of range or place is negative; NOT_FOUND if there are not so many". */
    private static void orderArguments() {
        PledgeTips none = new PledgeTips();
        PledgeTips x = full();
        for (int order = 0; order <= 2; order++) {
            due("12: nothing is there, order " + order, none.orderAt(order, 0), MISSING);
            due("12: place -1 of nothing, order " + order, none.orderAt(order, -1), INVALID);
            due("12: place -1, order " + order, x.orderAt(order, -1), INVALID);
            due("12: place 12, order " + order, x.orderAt(order, 12), MISSING);
            due("12: the least place, order " + order, x.orderAt(order, Integer.MIN_VALUE), INVALID);
            due("12: the greatest place, order " + order, x.orderAt(order, Integer.MAX_VALUE), MISSING);
        }
        for (int place = -1; place <= 12; place++) {
            due("12: order -1, place " + place, x.orderAt(-1, place), INVALID);
            due("12: order 3, place " + place, x.orderAt(3, place), INVALID);
        }
        for (int order : FAR) {
            due("12: order " + order, x.orderAt(order, 0), INVALID);
        }
    }

    private static void orderPlaces() {
        PledgeTips x = full();
        for (int place = 0; place < 12; place++) {
            due("12: by amounts, place " + place, x.orderAt(0, place), 11 - place);
            due("12: by waves, place " + place, x.orderAt(1, place), place);
        }
        // Of project 0 are the pledges 1, 4, 7 and 10, of the persons 0, 3, 6 and 2.
        int[] ofFirst = {1, 10, 4, 7};
        // Of project 1 are 2, 5, 8 and 11, of 1, 4, 0 and 3; of project 2 are 3, 6 and 9, of 2, 5 and 1.
        int[] ofOthers = {8, 2, 11, 5, 9, 3, 6, 0};
        for (int place = 0; place < 12; place++) {
            due("12: by projects and persons, place " + place, x.orderAt(2, place),
                    place < 4 ? ofFirst[place] : ofOthers[place - 4]);
        }
    }

    /** The greatest numbers of one rank are ahead of the least ones of the next. */
    private static void orderAtTheLastNumbers() {
        PledgeTips x = with(8, 5, 5);
        x.pledge(0, 1, 1, 0, 0);
        x.pledge(7, 0, 1, 0, 0);
        due("12: the last person of the first project", x.orderAt(2, 0), 1);
        due("12: the first person of the next project", x.orderAt(2, 1), 0);

        x = with(8, 5);
        x.pledge(1, 0, 1, 1, 900);
        for (int i = 1; i < 11; i++) {
            x.pledge(0, 0, 1, 0, 0);
        }
        x.pledge(2, 0, 1, 3, 1);
        due("12: the last number in the wave 2", x.orderAt(1, 10), 11);
        due("12: the first number in the wave 1", x.orderAt(1, 11), 0);
        due("12: the last one that stands", x.orderAt(1, 9), 10);

        x = with(1, 999, 5);
        x.pledge(0, 0, 1, 1, 900);
        for (int i = 1; i < 11; i++) {
            x.pledge(0, 0, 1, 2, 11 - i);
        }
        x.pledge(0, 1, 1, 0, 0);
        due("13: eleven waves", x.count(5), 11);
        due("12: the one that stands is ahead of the last wave", x.orderAt(1, 0), 11);
        for (int place = 1; place < 12; place++) {
            due("12: later waves first, place " + place, x.orderAt(1, place), 11 - place);
        }
    }

    /** Several of the same rank: by turns in the orders 0 and 2, by numbers in the order 1. */
    private static void orderTies() {
        PledgeTips x = with(1, 5);
        for (int i = 0; i < 4; i++) {
            x.pledge(0, 0, 7, 0, 0);
        }
        x.withdraw(1);
        x.withdraw(0);
        x.pledge(0, 0, 7, 0, 0);
        x.pledge(0, 0, 7, 0, 0);
        int[] byTurns = {2, 3, 0, 1};
        for (int place = 0; place < 4; place++) {
            due("12: same amounts by turns, place " + place, x.orderAt(0, place), byTurns[place]);
            due("12: all stand, by numbers, place " + place, x.orderAt(1, place), place);
            due("12: same project and person by turns, place " + place, x.orderAt(2, place), byTurns[place]);
        }
        x.withdraw(2);
        x.withdraw(0);
        x.pledge(0, 0, 7, 1, 500);
        x.pledge(0, 0, 7, 1, 500);
        int[] byWaves = {1, 3, 0, 2};
        for (int place = 0; place < 4; place++) {
            due("12: same waves by numbers, place " + place, x.orderAt(1, place), byWaves[place]);
        }
        x.withdraw(0);
        due("12: there are three", x.orderAt(0, 3), MISSING);
        due("12: the last one of three", x.orderAt(0, 2), 2);
    }

    private static void countWhats() {
        PledgeTips[] objects = {new PledgeTips(), full()};
        for (PledgeTips x : objects) {
            due("13: what -1", x.count(-1), INVALID);
            due("13: what 13", x.count(13), INVALID);
            for (int what : FAR) {
                due("13: what " + what, x.count(what), INVALID);
            }
        }
    }

    /** Each number when there is nothing yet, and when all places are taken. */
    private static void countsAtTheirEnds() {
        int[] none = {0, 0, 0, 0, 0, 0, 1, 0, 0, 0, 0, 0, 0};
        int[] all = {4, 8, 12, 11, 4095, 0, 2048, 3, 12, 0, 9, 4, 80};
        PledgeTips x = new PledgeTips();
        PledgeTips y = full();
        for (int what = 0; what <= 12; what++) {
            due("13: nothing is there, what " + what, x.count(what), none[what]);
            due("13: all places are taken, what " + what, y.count(what), all[what]);
        }
        PledgeTips z = with(1, 5);
        for (int i = 0; i < 12; i++) {
            z.pledge(0, 0, 1, 0, 0);
        }
        due("13: all sets hold", z.count(6), 4096);
        z.callIn(0);
        due("13: the empty set alone holds", z.count(6), 1);
        due("13: none is open", z.count(3), 0);
        due("13: all stand", z.count(4), 4095);
    }
}
