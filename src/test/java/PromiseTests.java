/** Each promise of the document by calls whose answers were worked out by hand. */
final class PromiseTests extends Scenes {
    private PromiseTests() {
    }

    static void run() {
        newObject();
        project();
        person();
        pledgeArguments();
        pledgeErrors();
        pledgeNumbers();
        conditions();
        twelveWaves();
        withdraw();
        callIn();
        calledCountAsMembers();
        pledgeOf();
        projectOf();
        tipAndNeeded();
        push();
        personOf();
        standing();
        setOf();
        orderAt();
        count();
        undo();
        undoOfEachChange();
        type();
        clearText();
        faultOfForm();
        faultOfCall();
        play();
    }

    private static void newObject() {
        PledgeTips other = with(2, 5);
        other.pledge(0, 0, 5, 0, 0);
        PledgeTips x = new PledgeTips();
        for (int what = 0; what <= 12; what++) {
            due("1: new count(" + what + ")", x.count(what), what == 6 ? 1 : 0);
        }
        due("1: new projectOf", x.projectOf(0, 0), INVALID);
        due("1: new personOf", x.personOf(0, 0), INVALID);
        due("1: new pledgeOf", x.pledgeOf(0, 0), INVALID);
        due("1: new pledge", x.pledge(0, 0, 1, 0, 0), INVALID);
        due("1: new standing(0)", x.standing(0), 0);
        due("1: new setOf(0, 0)", x.setOf(0, 0), 1);
        due("1: new orderAt", x.orderAt(0, 0), MISSING);
        due("1: new undo", x.undo(), IMPOSSIBLE);
        due("1: new fault", x.fault(0), MISSING);
        due("1: new clearText", x.clearText(), 0);
        due("1: INVALID_ARGUMENT", PledgeTips.INVALID_ARGUMENT, INVALID);
        due("1: NOT_POSSIBLE", PledgeTips.NOT_POSSIBLE, IMPOSSIBLE);
        due("1: LIMIT_REACHED", PledgeTips.LIMIT_REACHED, LIMIT);
        due("1: NOT_FOUND", PledgeTips.NOT_FOUND, MISSING);
    }

    private static void project() {
        PledgeTips x = new PledgeTips();
        due("2: project(0)", x.project(0), INVALID);
        due("2: project(-5)", x.project(-5), INVALID);
        due("2: project(1000)", x.project(1000), INVALID);
        due("2: no state for an error", x.count(11), 0);
        due("2: project(1)", x.project(1), 0);
        due("2: project(999)", x.project(999), 1);
        due("2: project(7)", x.project(7), 2);
        due("2: project(7) again", x.project(7), 3);
        due("2: a fifth one", x.project(7), LIMIT);
        due("2: a fifth one, out of range", x.project(0), INVALID);
        due("2: goal 0", x.projectOf(0, 0), 1);
        due("2: goal 1", x.projectOf(1, 0), 999);
        due("2: goal 3", x.projectOf(3, 0), 7);
        due("2: count(0)", x.count(0), 4);
        due("2: states", x.count(11), 4);
    }

    private static void person() {
        PledgeTips x = new PledgeTips();
        due("3: person(-1)", x.person(-1), INVALID);
        due("3: person(1000)", x.person(1000), INVALID);
        due("3: person(0)", x.person(0), 0);
        due("3: person(999)", x.person(999), 1);
        due("3: states", x.count(11), 2);
        for (int i = 2; i < 8; i++) {
            due("3: person " + i, x.person(i), i);
        }
        due("3: a ninth one", x.person(5), LIMIT);
        due("3: a ninth one, out of range", x.person(1000), INVALID);
        due("3: purse 0", x.personOf(0, 0), 0);
        due("3: purse 1", x.personOf(1, 0), 999);
        due("3: purse 7", x.personOf(7, 0), 7);
        due("3: count(1)", x.count(1), 8);
    }

    private static void pledgeArguments() {
        PledgeTips x = with(2, 5, 5);
        due("4: person -1", x.pledge(-1, 0, 1, 0, 0), INVALID);
        due("4: person 2", x.pledge(2, 0, 1, 0, 0), INVALID);
        due("4: project -1", x.pledge(0, -1, 1, 0, 0), INVALID);
        due("4: project 2", x.pledge(0, 2, 1, 0, 0), INVALID);
        due("4: amount 0", x.pledge(0, 0, 0, 0, 0), INVALID);
        due("4: amount 1000", x.pledge(0, 0, 1000, 0, 0), INVALID);
        due("4: kind -1", x.pledge(0, 0, 1, -1, 0), INVALID);
        due("4: kind 5", x.pledge(0, 0, 1, 5, 1), INVALID);
        due("4: kind 0, value 1", x.pledge(0, 0, 1, 0, 1), INVALID);
        due("4: kind 0, value -1", x.pledge(0, 0, 1, 0, -1), INVALID);
        due("4: kind 1, value 0", x.pledge(0, 0, 1, 1, 0), INVALID);
        due("4: kind 1, value 1000", x.pledge(0, 0, 1, 1, 1000), INVALID);
        due("4: kind 2, value 0", x.pledge(0, 0, 1, 2, 0), INVALID);
        due("4: kind 2, value 12", x.pledge(0, 0, 1, 2, 12), INVALID);
        due("4: kind 3, oneself", x.pledge(0, 0, 1, 3, 0), INVALID);
        due("4: kind 3, person 2", x.pledge(0, 0, 1, 3, 2), INVALID);
        due("4: kind 3, person -1", x.pledge(0, 0, 1, 3, -1), INVALID);
        due("4: kind 4, the same project", x.pledge(0, 0, 1, 4, 0), INVALID);
        due("4: kind 4, project 2", x.pledge(0, 0, 1, 4, 2), INVALID);
        due("4: kind 4, project -1", x.pledge(0, 0, 1, 4, -1), INVALID);
        due("4: states", x.count(11), 4);
        due("4: none made", x.count(8), 0);
        due("4: kind 1, value 1", x.pledge(0, 0, 1, 1, 1), 0);
        due("4: kind 1, value 999", x.pledge(0, 0, 1, 1, 999), 1);
        due("4: kind 2, value 1", x.pledge(0, 0, 1, 2, 1), 2);
        due("4: kind 2, value 11", x.pledge(0, 0, 1, 2, 11), 3);
        due("4: kind 3, person 0", x.pledge(1, 0, 1, 3, 0), 4);
        due("4: kind 4, project 0", x.pledge(1, 1, 1, 4, 0), 5);
        due("4: kind 4, project 1", x.pledge(1, 0, 1, 4, 1), 6);
        due("4: made", x.count(8), 7);
    }

    private static void pledgeErrors() {
        PledgeTips x = new PledgeTips();
        x.project(5);
        x.project(500);
        x.person(20);
        x.person(0);
        due("4: more than the purse", x.pledge(0, 0, 21, 0, 0), IMPOSSIBLE);
        due("4: an empty purse", x.pledge(1, 0, 1, 0, 0), IMPOSSIBLE);
        due("4: the whole purse", x.pledge(0, 0, 20, 1, 7), 0);
        due("4: no more is left, though it does not stand", x.pledge(0, 1, 1, 0, 0), IMPOSSIBLE);
        due("4: no more is left, out of range", x.pledge(0, 1, 1, 0, 7), INVALID);
        x.withdraw(0);
        due("4: it is left again", x.pledge(0, 0, 9, 0, 0), 0);
        due("4: goal", x.callIn(0), 9);
        due("4: closed", x.pledge(0, 0, 1, 0, 0), IMPOSSIBLE);
        due("4: closed, out of range", x.pledge(0, 0, 0, 0, 0), INVALID);
        due("4: what was called is no more in the purse", x.pledge(0, 1, 12, 0, 0), IMPOSSIBLE);
        for (int i = 1; i < 12; i++) {
            due("4: pledge " + i, x.pledge(0, 1, 1, 0, 0), i);
        }
        due("4: a called one counts for the limit, and the purse is ahead of it",
                x.pledge(0, 1, 1, 0, 0), IMPOSSIBLE);
        x.person(50);
        due("4: a thirteenth one", x.pledge(2, 1, 1, 0, 0), LIMIT);
        due("4: a thirteenth one, closed", x.pledge(2, 0, 1, 0, 0), IMPOSSIBLE);
        due("4: a thirteenth one, too dear", x.pledge(2, 1, 51, 0, 0), IMPOSSIBLE);
        due("4: a thirteenth one, out of range", x.pledge(2, 1, 1, 1, 0), INVALID);
        due("4: made", x.count(8), 13);
    }

    private static void pledgeNumbers() {
        PledgeTips x = with(1, 50);
        for (int i = 0; i < 4; i++) {
            due("4: number " + i, x.pledge(0, 0, 1 + i, 0, 0), i);
        }
        x.withdraw(2);
        x.withdraw(0);
        due("4: the lowest free number", x.pledge(0, 0, 9, 0, 0), 0);
        due("4: the next one", x.pledge(0, 0, 9, 0, 0), 2);
        due("4: the next one", x.pledge(0, 0, 9, 0, 0), 4);
        due("4: turn of 0", x.pledgeOf(0, 8), 4);
        due("4: turn of 2", x.pledgeOf(2, 8), 5);
        due("4: turn of 3", x.pledgeOf(3, 8), 3);
    }

    private static void conditions() {
        PledgeTips x = with(4, 10, 20);
        x.pledge(0, 0, 4, 1, 6);
        x.pledge(1, 0, 5, 0, 0);
        due("kind 1: its own amount does not count", x.count(4), 2);
        x.pledge(1, 1, 9, 0, 0);
        due("kind 1: other projects do not count", x.count(4), 6);
        x.pledge(0, 0, 1, 0, 0);
        due("kind 1: others of the same person count", x.count(4), 15);

        x = with(4, 10, 20);
        x.pledge(0, 0, 4, 2, 2);
        x.pledge(1, 0, 5, 0, 0);
        x.pledge(1, 1, 5, 0, 0);
        due("kind 2: one other for the project", x.count(4), 6);
        x.pledge(1, 0, 5, 0, 0);
        due("kind 2: two others for the project", x.count(4), 15);

        x = with(4, 10, 20);
        x.pledge(0, 0, 4, 3, 2);
        x.pledge(2, 1, 5, 3, 3);
        due("kind 3: the other one falls", x.count(4), 0);
        due("kind 3: in the wave behind", x.pledgeOf(0, 7), 2);
        x.pledge(3, 0, 5, 0, 0);
        due("kind 3: any project does", x.count(4), 7);
        x.pledge(1, 0, 5, 3, 0);
        due("kind 3: person 0", x.count(4), 15);
        x.withdraw(0);
        due("kind 3: person 0 is gone", x.count(4), 6);

        x = with(4, 10, 20);
        x.pledge(0, 0, 4, 4, 1);
        x.pledge(1, 1, 19, 0, 0);
        due("kind 4: not the goal", x.count(4), 2);
        x.pledge(1, 1, 1, 4, 0);
        due("kind 4: its pledges that fall do not count", x.count(4), 2);
        x.pledge(2, 0, 6, 0, 0);
        due("kind 4: both goals by one another", x.count(4), 15);
    }

    /** Each one falls in a wave of its own: one more than number 0 asks for, then 11 others, 10 others and so on. */
    private static void twelveWaves() {
        PledgeTips x = with(1, 10, 10);
        x.pledge(0, 0, 1, 1, 999);
        for (int i = 1; i < 12; i++) {
            x.pledge(0, 0, 1, 2, 12 - i);
        }
        due("twelve waves", x.count(5), 12);
        due("none stands", x.count(4), 0);
        due("none is left", x.setOf(4095, 2), 0);
        due("in the first wave", x.setOf(4095, 1), 1);
        for (int i = 0; i < 12; i++) {
            due("7: the wave of " + i, x.pledgeOf(i, 7), i + 1);
            due("12: later waves first, place " + i, x.orderAt(1, i), 11 - i);
        }
        due("6: not its goal", x.callIn(0), IMPOSSIBLE);
        x.withdraw(0);
        due("only the first one was to blame for none", x.count(5), 11);
        x.pledge(0, 0, 1, 0, 0);
        due("12: those that stand by their numbers", x.orderAt(1, 11), 11);
        due("all stand", x.count(4), 4095);
        due("6: the goal", x.callIn(0), 12);
    }

    private static void withdraw() {
        PledgeTips x = chain();
        due("5: no such pledge", x.withdraw(4), INVALID);
        due("5: -1", x.withdraw(-1), INVALID);
        due("5: 12", x.withdraw(12), INVALID);
        due("5: 32", x.withdraw(32), INVALID);
        due("5: the last of the chain", x.withdraw(3), 8);
        due("5: its number is free", x.pledgeOf(3, 0), INVALID);
        due("5: twice", x.withdraw(3), INVALID);
        x.undo();
        due("5: what it topples and itself", x.withdraw(1), 14);
        x.undo();
        due("5: all of the chain", x.withdraw(0), 15);
        x.undo();
        x.pledge(0, 1, 4, 1, 1);
        due("5: one that did not stand", x.withdraw(4), 0);
        due("5: withdrawn so far, but for what was undone", x.count(9), 1);
        x.callIn(0);
        due("5: a called one", x.withdraw(0), IMPOSSIBLE);
        due("5: that changed nothing", x.count(2), 4);
    }

    private static void callIn() {
        PledgeTips x = chain();
        x.pledge(3, 0, 50, 1, 100);
        x.pledge(3, 1, 4, 4, 0);
        due("6: no such project", x.callIn(2), INVALID);
        due("6: -1", x.callIn(-1), INVALID);
        due("6: not its goal", x.callIn(1), IMPOSSIBLE);
        due("6: states", x.count(11), 4);
        due("6: the money", x.callIn(0), 20);
        due("6: closed", x.callIn(0), IMPOSSIBLE);
        due("6: closed", x.projectOf(0, 4), 1);
        due("6: those that stood are called", x.projectOf(0, 5), 15);
        due("6: the others are gone", x.pledgeOf(4, 0), INVALID);
        due("6: that is no withdrawal", x.count(9), 0);
        due("6: purse 1", x.personOf(1, 0), 993);
        due("6: purse 3", x.personOf(3, 0), 997);
        due("6: paid 3", x.personOf(3, 3), 2);
        due("6: money", x.count(10), 20);
        due("6: pledges for others stay", x.pledgeOf(5, 5), 0);
        due("6: called", x.pledgeOf(0, 5), 1);
        due("6: a number of a gone one is free", x.pledge(0, 1, 1, 0, 0), 4);
        due("6: goal of the other", x.callIn(1), 5);
        due("6: money of both", x.count(10), 25);
        due("6: paid 3 twice", x.personOf(3, 3), 6);
        due("6: no open one is left", x.count(3), 0);
    }

    private static void calledCountAsMembers() {
        PledgeTips x = with(3, 5, 9);
        x.pledge(0, 0, 5, 4, 1);
        x.pledge(1, 1, 9, 0, 0);
        x.callIn(0);
        due("a called one stands without its condition", x.withdraw(1), 2);
        due("a called one stands", x.count(4), 1);
        due("sets of open ones: the empty one", x.count(6), 1);
        x.pledge(2, 1, 3, 3, 0);
        x.pledge(1, 1, 3, 4, 0);
        due("called ones are members for others", x.count(4), 7);
        due("a set with them", x.setOf(2, 0), 1);
        due("no called ones in the greatest set", x.setOf(6, 2), 6);
        due("sets of open ones", x.count(6), 4);
    }

    private static void pledgeOf() {
        PledgeTips x = with(3, 20, 5);
        x.pledge(2, 1, 3, 0, 0);
        x.pledge(1, 0, 6, 4, 1);
        x.pledge(0, 0, 7, 2, 1);
        x.pledge(0, 1, 8, 3, 1);
        int[] last = {0, 1, 8, 3, 1, 0, 1, MISSING, 3, 6};
        for (int what = 0; what <= 9; what++) {
            due("7: pledgeOf(3, " + what + ")", x.pledgeOf(3, what), last[what]);
        }
        due("7: person", x.pledgeOf(0, 0), 2);
        due("7: project", x.pledgeOf(1, 1), 0);
        due("7: what -1", x.pledgeOf(3, -1), INVALID);
        due("7: what 10", x.pledgeOf(3, 10), INVALID);
        due("7: pledge -1", x.pledgeOf(-1, 0), INVALID);
        due("7: pledge 4", x.pledgeOf(4, 0), INVALID);
        due("7: pledge 35", x.pledgeOf(35, 0), INVALID);
        due("7: what 9 of one that is not needed", x.pledgeOf(0, 9), 0);
        due("7: what 9, itself left out", x.pledgeOf(1, 9), 12);
        x.withdraw(3);
        due("7: first wave", x.pledgeOf(1, 7), 1);
        due("7: second wave", x.pledgeOf(2, 7), 2);
        due("7: it does not stand", x.pledgeOf(2, 6), 0);
        due("7: one that stands", x.pledgeOf(0, 7), MISSING);
        due("7: what 9 of one that does not stand", x.pledgeOf(1, 9), 0);
        x.pledge(2, 1, 2, 0, 0);
        x.callIn(1);
        due("7: called", x.pledgeOf(0, 5), 1);
        due("7: called, stands", x.pledgeOf(0, 6), 1);
        due("7: called, no wave", x.pledgeOf(0, 7), MISSING);
        due("7: called, what 9", x.pledgeOf(0, 9), IMPOSSIBLE);
        due("7: turn behind a withdrawal", x.pledgeOf(3, 8), 4);
    }

    private static void projectOf() {
        PledgeTips x = chain();
        x.pledge(0, 0, 50, 1, 100);
        x.pledge(0, 1, 3, 0, 0);
        int[] first = {20, 70, 20, 1, 0, 31, 15, 3, 15, 0};
        int[] second = {5, 3, 3, 0, 0, 32, 32, MISSING, MISSING, 2};
        for (int what = 0; what <= 9; what++) {
            due("8: projectOf(0, " + what + ")", x.projectOf(0, what), first[what]);
            due("8: projectOf(1, " + what + ")", x.projectOf(1, what), second[what]);
        }
        due("8: what -1", x.projectOf(0, -1), INVALID);
        due("8: what 10", x.projectOf(0, 10), INVALID);
        due("8: project -1", x.projectOf(-1, 0), INVALID);
        due("8: project 2", x.projectOf(2, 0), INVALID);
        x.callIn(0);
        int[] closed = {20, 20, 20, 1, 1, 15, 15, 3, 0, MISSING};
        for (int what = 0; what <= 9; what++) {
            due("8: closed, projectOf(0, " + what + ")", x.projectOf(0, what), closed[what]);
        }
    }

    private static void tipAndNeeded() {
        PledgeTips x = with(3, 10, 8);
        x.pledge(0, 0, 10, 3, 2);
        x.pledge(1, 1, 8, 4, 0);
        x.pledge(2, 1, 1, 0, 0);
        due("8: a tip for another project", x.projectOf(0, 7), 2);
        due("8: the same one tips both", x.projectOf(1, 7), 2);
        due("8: needed from any project", x.projectOf(0, 8), 5);
        due("8: needed for the other", x.projectOf(1, 8), 7);
        x.pledge(1, 0, 10, 0, 0);
        due("8: more money does not move the tip", x.projectOf(0, 7), 2);
        due("8: none is needed alone", x.projectOf(0, 8), 0);
        x.withdraw(2);
        due("8: made anew without the withdrawn one", x.projectOf(0, 7), 3);
        x.pledge(2, 1, 1, 0, 0);
        due("8: by turns and not by numbers", x.projectOf(0, 7), 3);
        due("8: number 2 has a later turn", x.pledgeOf(2, 8), 4);
        x.withdraw(3);
        due("8: number 2 tips again", x.projectOf(0, 7), 2);
        x.callIn(0);
        due("8: a called one counts from its turn on", x.projectOf(0, 7), 0);
        due("8: so it does for others", x.projectOf(1, 7), 1);
        due("8: called ones are not needed open ones", x.projectOf(1, 8), 2);

        x = with(3, 10, 8);
        x.pledge(1, 1, 8, 4, 0);
        x.pledge(0, 0, 10, 0, 0);
        x.callIn(0);
        due("8: not ahead of the turn of the called one", x.projectOf(1, 7), 1);
        x.withdraw(0);
        x.pledge(0, 1, 4, 0, 0);
        x.pledge(1, 1, 4, 0, 0);
        x.withdraw(0);
        x.pledge(0, 1, 4, 0, 0);
        due("8: number 0 is the last one", x.projectOf(1, 7), 0);
    }

    private static void push() {
        PledgeTips x = with(3, 30, 10);
        due("8: push of a project without pledges", x.projectOf(0, 9), 30);
        x.pledge(0, 0, 12, 1, 3);
        due("8: the push does without what is not needed", x.projectOf(0, 9), 18);
        x.pledge(1, 0, 16, 1, 14);
        due("8: the push brings others in", x.projectOf(0, 9), 2);
        x.withdraw(0);
        x.pledge(0, 0, 12, 2, 2);
        due("8: the extra one is one of the others", x.projectOf(0, 9), 2);
        x.pledge(2, 1, 9, 4, 0);
        due("8: it is for the other one alone", x.projectOf(1, 9), 10);
        x.pledge(2, 0, 16, 4, 1);
        due("8: the two projects hold one another", x.projectOf(1, 9), 1);
        x.withdraw(3);
        x.pledge(2, 0, 16, 0, 0);
        due("8: no push", x.projectOf(0, 9), 0);
        due("8: a push of one", x.projectOf(1, 9), 1);
        PledgeTips y = with(8, 999);
        y.pledge(0, 0, 998, 3, 7);
        due("8: someone else than all persons", y.projectOf(0, 9), 999);
        y.withdraw(0);
        y.pledge(1, 0, 998, 3, 0);
        due("8: nor is it person 0", y.projectOf(0, 9), 999);
        y.withdraw(0);
        y.pledge(0, 0, 998, 3, 7);
        due("8: it leaves nothing behind", y.count(4), 0);
        due("8: it is no pledge", y.count(2), 1);
        for (int i = 1; i < 12; i++) {
            y.pledge(1, 0, 1, 1, 12);
        }
        due("8: also with 12 pledges", y.projectOf(0, 9), 988);
    }

    private static void personOf() {
        PledgeTips x = chain();
        x.pledge(1, 1, 5, 0, 0);
        x.pledge(1, 1, 30, 2, 9);
        int[] second = {999, 41, 11, 0, 50, 2};
        for (int what = 0; what <= 5; what++) {
            due("9: personOf(1, " + what + ")", x.personOf(1, what), second[what]);
        }
        due("9: what -1", x.personOf(1, -1), INVALID);
        due("9: what 6", x.personOf(1, 6), INVALID);
        due("9: person -1", x.personOf(-1, 0), INVALID);
        due("9: person 4", x.personOf(4, 0), INVALID);
        x.callIn(0);
        int[] called = {993, 35, 5, 6, 50, 0};
        for (int what = 0; what <= 5; what++) {
            due("9: called, personOf(1, " + what + ")", x.personOf(1, what), called[what]);
        }
        x.pledge(2, 1, 1, 1, 5);
        due("9: only open ones are withdrawn for it", x.personOf(1, 5), 1);
    }

    private static void standing() {
        PledgeTips x = chain();
        due("10: without none", x.standing(0), 15);
        due("10: without one", x.standing(8), 7);
        due("10: without one that holds others", x.standing(2), 1);
        due("10: without two", x.standing(3), 0);
        due("10: without all", x.standing(15), 0);
        due("10: no such pledge", x.standing(16), INVALID);
        due("10: negative", x.standing(-1), INVALID);
        due("10: bit 31", x.standing(Integer.MIN_VALUE), INVALID);
        x.pledge(0, 1, 5, 0, 0);
        x.callIn(1);
        due("10: called ones included", x.standing(15), 16);
        due("10: a called one", x.standing(16), IMPOSSIBLE);
        due("10: a called one and none", x.standing(48), INVALID);
        due("10: it changes nothing", x.count(4), 31);
    }

    private static void setOf() {
        PledgeTips x = chain();
        due("11: all", x.setOf(15, 0), 1);
        due("11: none", x.setOf(0, 0), 1);
        due("11: one that does not hold", x.setOf(2, 0), 0);
        due("11: none fails", x.setOf(15, 1), 0);
        due("11: those that fail", x.setOf(13, 1), 4);
        due("11: only the first wave of them", x.setOf(12, 1), 4);
        due("11: the greatest within it", x.setOf(12, 2), 0);
        due("11: the greatest within it", x.setOf(7, 2), 7);
        due("11: the greatest within it", x.setOf(11, 2), 3);
        due("11: what -1", x.setOf(0, -1), INVALID);
        due("11: what 3", x.setOf(0, 3), INVALID);
        due("11: no such pledge", x.setOf(16, 0), INVALID);
        due("11: negative", x.setOf(-16, 2), INVALID);
        x.callIn(0);
        x.pledge(0, 1, 1, 3, 3);
        due("11: with the called ones as members", x.setOf(16, 0), 1);
        due("11: without them in the answer", x.setOf(16, 2), 16);
        due("11: a called one", x.setOf(17, 0), IMPOSSIBLE);
        due("11: a called one, what 3", x.setOf(17, 3), INVALID);
        due("11: a called one and none", x.setOf(33, 0), INVALID);
    }

    private static void dueOrder(PledgeTips x, int order, int... numbers) {
        for (int place = 0; place < numbers.length; place++) {
            due("12: orderAt(" + order + ", " + place + ")", x.orderAt(order, place), numbers[place]);
        }
        due("12: behind the last one in " + order, x.orderAt(order, numbers.length), MISSING);
    }

    private static void orderAt() {
        PledgeTips x = with(3, 20, 5);
        x.pledge(2, 1, 3, 0, 0);
        x.pledge(1, 0, 8, 1, 12);
        x.pledge(0, 0, 8, 2, 1);
        x.pledge(0, 1, 9, 2, 4);
        x.pledge(1, 1, 2, 3, 2);
        x.withdraw(0);
        x.pledge(2, 1, 8, 0, 0);
        dueOrder(x, 0, 3, 1, 2, 0, 4);
        dueOrder(x, 1, 0, 4, 2, 1, 3);
        dueOrder(x, 2, 2, 1, 3, 4, 0);
        x.pledge(2, 1, 3, 0, 0);
        x.withdraw(4);
        x.pledge(2, 1, 8, 0, 0);
        dueOrder(x, 0, 3, 1, 2, 0, 4, 5);
        dueOrder(x, 1, 0, 4, 5, 2, 1, 3);
        dueOrder(x, 2, 2, 1, 3, 0, 5, 4);
        due("12: order -1", x.orderAt(-1, 0), INVALID);
        due("12: order 3", x.orderAt(3, 0), INVALID);
        due("12: order 3, far place", x.orderAt(3, 99), INVALID);
        due("12: place -1", x.orderAt(0, -1), INVALID);
        due("12: a far place", x.orderAt(0, Integer.MAX_VALUE), MISSING);
        x.callIn(1);
        dueOrder(x, 0, 1, 2, 0, 4, 5);
        dueOrder(x, 1, 0, 4, 5, 2, 1);
    }

    private static void count() {
        PledgeTips x = chain();
        x.pledge(0, 1, 5, 0, 0);
        x.pledge(1, 1, 30, 3, 2);
        x.withdraw(1);
        type(x, "g;");
        int[] want = {2, 4, 5, 5, 17, 2, 4, 1, 6, 1, 0, 4, 2};
        for (int what = 0; what <= 12; what++) {
            due("13: count(" + what + ")", x.count(what), want[what]);
        }
        due("13: count(-1)", x.count(-1), INVALID);
        due("13: count(13)", x.count(13), INVALID);
        x.pledge(3, 0, 15, 0, 0);
        due("13: both goals", x.count(7), 2);
        x.undo();
        x.callIn(1);
        int[] called = {2, 4, 4, 3, 17, 2, 2, 1, 6, 1, 5, 4, 2};
        for (int what = 0; what <= 12; what++) {
            due("13: called, count(" + what + ")", x.count(what), called[what]);
        }
    }

    private static void undo() {
        PledgeTips x = with(1, 9);
        x.pledge(0, 0, 9, 0, 0);
        x.callIn(0);
        due("14: four states", x.count(11), 4);
        x.project(8);
        due("14: the oldest one is dropped", x.count(11), 4);
        type(x, "w0;");
        due("14: undo", x.undo(), 3);
        due("14: the project is gone", x.count(0), 1);
        due("14: the text is not restored", x.count(12), 3);
        due("14: undo of callIn", x.undo(), 2);
        due("14: open again", x.pledgeOf(0, 5), 0);
        due("14: money", x.count(10), 0);
        due("14: purse", x.personOf(0, 0), 999);
        due("14: paid", x.personOf(0, 3), 0);
        due("14: not closed", x.projectOf(0, 4), 0);
        due("14: an error is no change", x.withdraw(7), INVALID);
        due("14: undo of the pledge", x.undo(), 1);
        due("14: made so far", x.count(8), 0);
        due("14: undo of the person", x.undo(), 0);
        due("14: no person", x.count(1), 0);
        due("14: the state ahead was dropped", x.undo(), IMPOSSIBLE);
        due("14: the project is there", x.projectOf(0, 0), 9);
        x.person(50);
        x.pledge(0, 0, 3, 0, 0);
        x.withdraw(0);
        due("14: withdrawn", x.count(9), 1);
        due("14: undo of a withdrawal", x.undo(), 2);
        due("14: not withdrawn", x.count(9), 0);
        due("14: the pledge is there", x.pledgeOf(0, 2), 3);
        due("14: undo is no change itself", x.undo(), 1);
    }

    private static void duePledge(String what, PledgeTips x, int... values) {
        for (int i = 0; i < values.length; i++) {
            due(what + ", pledgeOf(0, " + i + ")", x.pledgeOf(0, i == 5 ? 8 : i), values[i]);
        }
    }

    private static void undoOfEachChange() {
        PledgeTips x = with(3, 10, 20);
        x.pledge(1, 1, 5, 3, 2);
        x.withdraw(0);
        x.pledge(2, 0, 6, 1, 9);
        duePledge("14: the new one", x, 2, 0, 6, 1, 9, 1);
        x.undo();
        due("14: none", x.pledgeOf(0, 0), INVALID);
        x.undo();
        duePledge("14: the old one", x, 1, 1, 5, 3, 2, 0);
        type(x, "w0;p2,0,6,1,9;g7;");
        due("14: tried only", x.fault(0), MISSING);
        duePledge("14: tried only", x, 1, 1, 5, 3, 2, 0);
        x.play();
        duePledge("14: played", x, 2, 0, 6, 1, 9, 1);
        x.undo();
        duePledge("14: play undone", x, 1, 1, 5, 3, 2, 0);
        due("14: play undone, projects", x.count(0), 2);

        x = with(1, 999);
        for (int i = 0; i < 11; i++) {
            x.pledge(0, 0, 1 + i, 0, 0);
        }
        for (int left = 3; left >= 0; left--) {
            due("14: undo behind many changes", x.undo(), left);
            due("14: pledges left with " + left, x.count(2), 7 + left);
            due("14: the last one", x.pledgeOf(6 + left, 2), 7 + left);
        }
        due("14: no more than four", x.undo(), IMPOSSIBLE);

        x = with(2);
        x.undo();
        due("14: undo of a person", x.count(1), 1);
        x.project(7);
        x.pledge(0, 0, 7, 0, 0);
        x.undo();
        due("14: undo of a pledge", x.count(2), 0);
        x.pledge(0, 0, 8, 0, 0);
        x.callIn(0);
        x.undo();
        due("14: undo of callIn", x.count(3), 1);
        x.withdraw(0);
        x.undo();
        due("14: undo of withdraw", x.pledgeOf(0, 2), 8);
        x.undo();
        x.undo();
        due("14: undo of a project", x.count(0), 0);
        x.project(9);
        due("14: another one", x.projectOf(0, 0), 9);
    }

    private static void type() {
        PledgeTips x = new PledgeTips();
        due("15: 31", x.type(31), INVALID);
        due("15: 127", x.type(127), INVALID);
        due("15: -1", x.type(-1), INVALID);
        due("15: 103 and a bit more", x.type(103 + 65536), INVALID);
        due("15: nothing typed", x.count(12), 0);
        due("15: 32", x.type(32), 1);
        due("15: 126", x.type(126), 2);
        for (int i = 3; i <= 80; i++) {
            due("15: character " + i, x.type('0'), i);
        }
        due("15: an 81st one", x.type('0'), LIMIT);
        due("15: an 81st one, out of range", x.type(31), INVALID);
        due("15: length", x.count(12), 80);
        due("15: no change", x.count(11), 0);
        due("15: not of the form", x.fault(1), 1);
    }

    private static void clearText() {
        PledgeTips x = new PledgeTips();
        type(x, "g5;g6;");
        due("16: clearText", x.clearText(), 6);
        due("16: empty", x.count(12), 0);
        due("16: again", x.clearText(), 0);
        due("16: no change", x.count(11), 0);
        due("16: nothing of it is left", x.type('g'), 1);
        due("16: nothing of it is read", x.fault(0), 0);
        due("16: nothing is played", x.play(), IMPOSSIBLE);
    }

    private static void faultOfForm() {
        PledgeTips x = with(2, 5, 5);
        due("17: what -1", x.fault(-1), INVALID);
        due("17: what 3", x.fault(3), INVALID);
        for (int what = 0; what <= 2; what++) {
            due("17: empty text, fault(" + what + ")", x.fault(what), MISSING);
        }
        String[] badForms = {";", "g", "g;", "g5", "g5,", "g5,;", "g 5;", " g5;", "G5;", "x5;", "g1234;", "g0005;",
            "g-5;", "g5.;", "g5,6;", "w;", "w1,0;", "c0", "h", "p0,0,1,0;", "p0,0,1,0,0", "p0,0,1,0,0,0;",
            "p0,0,,0,0;", "p,0,1,0,0;", "p0;0,1,0,0;", "p0,0,1,0,;", "p0,0,1000,0,0;", "5;", "gg5;", "g5g5;"};
        for (String text : badForms) {
            x = with(2, 5, 5);
            dueFault(text, x, 0, 1, MISSING);
            dueFault("g5;" + text, x, 3, 1, MISSING);
        }
        dueFault("g5; g5;", x, 3, 1, MISSING);
        dueFault("g5;;", x, 3, 1, MISSING);
        dueFault("h001;c", x, 5, 1, MISSING);
        dueFault("g5;g5;g5;g", x, 6, 2, LIMIT);
        due("17: nothing was done", x.count(0), 2);
        due("17: no state for it", x.count(11), 4);
    }

    private static void faultOfCall() {
        PledgeTips x = with(2, 5, 5);
        dueFault("g0;", x, 0, 2, INVALID);
        dueFault("g000;g", x, 0, 2, INVALID);
        dueFault("w0;", x, 0, 2, INVALID);
        dueFault("c0;", x, 0, 2, IMPOSSIBLE);
        dueFault("c2;", x, 0, 2, INVALID);
        dueFault("c4;", x, 0, 2, INVALID);
        dueFault("p2,0,1,0,0;", x, 0, 2, INVALID);
        dueFault("p0,0,1,0,1;", x, 0, 2, INVALID);
        dueFault("p0,0,999,0,0;p0,0,1,0,0;", x, 13, 2, IMPOSSIBLE);
        dueFault("p0,0,5,0,0;c0;p0,0,1,0,0;", x, 14, 2, IMPOSSIBLE);
        dueFault("p0,0,5,0,0;c0;w0;", x, 14, 2, IMPOSSIBLE);
        dueFault("h1;h1;h1;h1;h1;h1;h1;", x, 18, 2, LIMIT);
        dueFault("p0,0,1,0,0;w0;w0;", x, 14, 2, INVALID);
        due("17: nothing was done", x.count(8), 0);
        x.undo();
        x.undo();
        due("17: still the same history", x.undo(), 1);
        PledgeTips y = with(2, 5);
        retype(y, "g09;h000;p00,001,9,00,000;c1;p1,0,5,3,0;");
        due("17: no fault, position", y.fault(0), MISSING);
        due("17: no fault, reason", y.fault(1), MISSING);
        due("17: no fault, cause", y.fault(2), MISSING);
    }

    private static void play() {
        PledgeTips x = with(2, 5);
        due("18: an empty text", x.play(), 0);
        due("18: it is a change", x.count(11), 4);
        x.undo();
        due("18: its state", x.count(11), 3);
        type(x, "g9;h20;p2,1,9,0,0;p0,0,5,3,2;w1;c1;");
        due("18: play", x.play(), 6);
        due("18: one change", x.count(11), 4);
        due("18: the text stays", x.count(12), 35);
        due("18: project", x.projectOf(1, 0), 9);
        due("18: purse", x.personOf(2, 0), 11);
        due("18: withdrawn by texts", x.count(9), 1);
        due("18: made", x.count(8), 2);
        due("18: money", x.count(10), 9);
        due("18: closed", x.projectOf(1, 4), 1);
        due("18: not a second time", x.play(), IMPOSSIBLE);
        due("18: that is no change", x.count(11), 4);
        due("18: undone as one", x.undo(), 3);
        due("18: nothing of it is left", x.count(0) * 100 + x.count(1) * 10 + x.count(2), 120);
        due("18: money is back", x.count(10), 0);
        due("18: again", x.play(), 6);
        retype(x, "p0,0,1,0,0;x");
        due("18: with a fault", x.play(), IMPOSSIBLE);
        due("18: nothing is done of it", x.count(2), 1);
    }
}
