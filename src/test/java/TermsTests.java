/** The sentences of "Terms" up to "Texts" that name a boundary, each by a test of its own, which quotes it. */
final class TermsTests extends Scenes {
    private TermsTests() {
    }

    static void run() {
        lastOfManyCalls();
        setsAreBits();
        fourProjects();
        eightPersons();
        twelvePledges();
        lowestNumber();
        openAtFirst();
        atMostThePurse();
        pursesOfCallsIn();
        greatestSums();
        turns();
        kindAlways();
        kindOthersComeTo();
        kindOthersAreMany();
        kindPersonTakesPart();
        kindProjectHasGoal();
        calledAreMembers();
        greatestSet();
        wavesOfFalling();
        exactlyTheGoal();
        withdrawnNumber();
        calledAndGone();
        closedProjects();
        tipIsTheFirst();
        tipByTurns();
        tipOfCalled();
        pushOfNone();
        pushByKinds();
    }

    /** "An object is used for at most 512 calls": the last ones answer as the first ones do. */
    private static void lastOfManyCalls() {
        PledgeTips x = with(2, 5);
        int turn = 0;
        for (int calls = 3; calls < 501; calls += 2) {
            due("number behind " + calls + " calls", x.pledge(turn % 2, 0, 5, 0, 0), 0);
            due("withdrawn behind " + calls + " calls", x.withdraw(0), 1);
            turn++;
        }
        due("call 502", x.pledge(0, 0, 5, 0, 0), 0);
        due("call 503", x.pledge(1, 0, 5, 0, 0), 1);
        due("call 504: the turn", x.pledgeOf(1, 8), turn + 1);
        due("call 505: the order", x.orderAt(0, 0), 0);
        due("call 506: made", x.count(8), turn + 2);
        due("call 507: withdrawn", x.count(9), turn);
        due("call 508: tip", x.projectOf(0, 7), 0);
        due("call 509: called", x.callIn(0), 10);
        due("call 510: undo", x.undo(), 3);
        due("call 511: undo", x.undo(), 2);
        due("call 512: stand", x.count(4), 1);
    }

    /** "Sets are told as bits: bit k is for number k." */
    private static void setsAreBits() {
        PledgeTips x = with(1, 5);
        for (int k = 0; k < 12; k++) {
            x.pledge(0, 0, 1, 0, 0);
            due("bits up to " + k, x.count(4), (2 << k) - 1);
        }
        for (int k = 0; k < 12; k++) {
            due("bit " + k + " alone", x.setOf(1 << k, 2), 1 << k);
            due("bit " + k + " left out", x.standing(1 << k), 4095 - (1 << k));
        }
        due("bits of a project", x.projectOf(0, 5), 4095);
        due("bits of those that stand", x.projectOf(0, 6), 4095);
        due("bits of a person", x.personOf(0, 4), 4095);
        due("bit of the last one", x.withdraw(11), 2048);
        due("bit of the first one", x.withdraw(0), 1);
        due("bits between", x.personOf(0, 4), 2046);
    }

    /** "There are at most 4 projects, numbered from 0, each with a goal (1 to 999)". */
    private static void fourProjects() {
        PledgeTips x = new PledgeTips();
        due("2: goal 0", x.project(0), INVALID);
        due("2: goal 1000", x.project(1000), INVALID);
        due("2: goal 1", x.project(1), 0);
        due("2: goal 999", x.project(999), 1);
        due("2: goal 2", x.project(2), 2);
        due("2: project 3 is not there yet", x.projectOf(3, 0), INVALID);
        due("2: goal 998", x.project(998), 3);
        due("2: the fourth one", x.projectOf(3, 0), 998);
        due("2: a fifth one", x.project(3), LIMIT);
        due("2: no fifth one", x.projectOf(4, 0), INVALID);
        due("2: four", x.count(0), 4);
        x.undo();
        due("2: the fourth one again", x.project(4), 3);
        due("2: its new goal", x.projectOf(3, 0), 4);
        x.person(9);
        x.pledge(0, 0, 9, 0, 0);
        x.callIn(0);
        due("2: a closed one is one of the four", x.project(3), LIMIT);
    }

    /** "at most 8 persons, numbered from 0, each with a purse (0 to 999)". */
    private static void eightPersons() {
        PledgeTips x = new PledgeTips();
        due("3: purse -1", x.person(-1), INVALID);
        due("3: purse 1000", x.person(1000), INVALID);
        due("3: purse 0", x.person(0), 0);
        due("3: purse 999", x.person(999), 1);
        for (int i = 2; i < 8; i++) {
            due("3: person " + i + " is not there yet", x.personOf(i, 0), INVALID);
            due("3: person " + i, x.person(100 + i), i);
        }
        due("3: a ninth one", x.person(1), LIMIT);
        due("3: no ninth one", x.personOf(8, 0), INVALID);
        due("3: eight", x.count(1), 8);
        int[] purses = {0, 999, 102, 103, 104, 105, 106, 107};
        for (int i = 0; i < 8; i++) {
            due("3: purse of " + i, x.personOf(i, 0), purses[i]);
        }
        x.undo();
        due("3: the eighth one again", x.person(6), 7);
        due("3: its new purse", x.personOf(7, 0), 6);
    }

    /** "There are at most 12 pledges at a time, with numbers 0 to 11". */
    private static void twelvePledges() {
        PledgeTips x = with(1, 5, 5);
        for (int i = 0; i < 12; i++) {
            due("4: pledge " + i + " is not there yet", x.pledgeOf(i, 0), INVALID);
            due("4: pledge " + i, x.pledge(0, 0, 1, 0, 0), i);
        }
        due("4: a thirteenth one", x.pledge(0, 0, 1, 0, 0), LIMIT);
        due("4: for another project", x.pledge(0, 1, 1, 0, 0), LIMIT);
        due("4: no thirteenth one", x.pledgeOf(12, 0), INVALID);
        due("4: twelve", x.count(2), 12);
        due("4: it was not made", x.count(8), 12);
        x.withdraw(4);
        due("4: one place is free", x.pledge(0, 1, 1, 0, 0), 4);
        due("4: none is free", x.pledge(0, 1, 1, 0, 0), LIMIT);
        x.callIn(0);
        due("4: called ones keep their places", x.pledge(0, 1, 1, 0, 0), LIMIT);
        due("4: twelve with the called ones", x.count(2), 12);
        due("4: one of them is open", x.count(3), 1);
    }

    /** "a new one gets the lowest number that no pledge has". */
    private static void lowestNumber() {
        PledgeTips x = with(2, 5, 5);
        for (int i = 0; i < 12; i++) {
            x.pledge(0, i % 2, 1, i == 6 ? 1 : 0, i == 6 ? 999 : 0);
        }
        x.withdraw(11);
        x.withdraw(7);
        x.withdraw(0);
        due("4: the lowest free one of three", x.pledge(1, 0, 1, 0, 0), 0);
        due("4: the lowest free one of two", x.pledge(1, 1, 1, 0, 0), 7);
        due("4: the last free one", x.pledge(1, 1, 1, 0, 0), 11);
        x.callIn(0);
        due("4: the number of one that is gone", x.pledge(1, 1, 1, 0, 0), 6);
        due("4: no number of called ones", x.pledge(1, 1, 1, 0, 0), LIMIT);
        x.undo();
        due("4: the number that undo gave back", x.pledge(0, 1, 1, 0, 0), 6);
    }

    /** "it is open at first, and is called later perhaps". */
    private static void openAtFirst() {
        PledgeTips x = with(1, 5, 5);
        x.pledge(0, 0, 5, 0, 0);
        x.pledge(0, 1, 4, 0, 0);
        x.pledge(0, 1, 4, 1, 900);
        for (int i = 0; i < 3; i++) {
            due("7: pledge " + i + " is open at first", x.pledgeOf(i, 5), 0);
        }
        x.callIn(0);
        due("7: one is called", x.pledgeOf(0, 5), 1);
        due("7: one that stands for another project is open", x.pledgeOf(1, 5), 0);
        due("7: one that does not stand is open", x.pledgeOf(2, 5), 0);

        x = with(1, 6, 6);
        for (int i = 0; i < 12; i++) {
            x.pledge(0, i % 2, 1, 0, 0);
        }
        x.callIn(1);
        for (int i = 0; i < 12; i++) {
            due("7: of twelve every second one is called, " + i, x.pledgeOf(i, 5), i % 2);
        }
    }

    /** "The open pledges of a person together are at most the purse." */
    private static void atMostThePurse() {
        PledgeTips x = new PledgeTips();
        x.project(10);
        x.project(10);
        x.person(20);
        x.person(0);
        x.person(999);
        due("4: one more than the purse", x.pledge(0, 0, 21, 0, 0), IMPOSSIBLE);
        due("4: as much as the purse", x.pledge(0, 0, 20, 0, 0), 0);
        due("4: the purse does not change by it", x.personOf(0, 0), 20);
        due("4: one more behind it", x.pledge(0, 1, 1, 0, 0), IMPOSSIBLE);
        due("4: the least of an empty purse", x.pledge(1, 0, 1, 0, 0), IMPOSSIBLE);
        due("4: the most of the greatest purse", x.pledge(2, 0, 999, 0, 0), 1);
        due("4: one more than the greatest purse", x.pledge(2, 1, 1, 0, 0), IMPOSSIBLE);
        x.withdraw(0);
        due("4: some for one", x.pledge(0, 0, 8, 0, 0), 0);
        due("4: one too many for both together", x.pledge(0, 1, 13, 1, 998), IMPOSSIBLE);
        due("4: both together, one of them falls", x.pledge(0, 1, 12, 1, 998), 2);
        due("4: one that falls counts", x.pledge(0, 0, 1, 0, 0), IMPOSSIBLE);
    }

    /** The same sentence when "the amounts leave the purses of the persons". */
    private static void pursesOfCallsIn() {
        PledgeTips x = new PledgeTips();
        x.project(10);
        x.project(10);
        x.person(20);
        x.person(9);
        x.pledge(0, 0, 8, 0, 0);
        x.pledge(0, 1, 12, 1, 998);
        x.pledge(1, 0, 9, 0, 0);
        due("6: money", x.callIn(0), 17);
        due("6: purse 0", x.personOf(0, 0), 12);
        due("6: purse 1 is empty", x.personOf(1, 0), 0);
        due("4: nothing of an empty purse", x.pledge(1, 1, 1, 0, 0), IMPOSSIBLE);
        due("4: the open one is as much as the purse", x.pledge(0, 1, 1, 0, 0), IMPOSSIBLE);
        x.withdraw(1);
        due("4: one more than what is left", x.pledge(0, 1, 13, 0, 0), IMPOSSIBLE);
        due("4: what is left; called ones are not open", x.pledge(0, 1, 12, 0, 0), 1);

        x = new PledgeTips();
        x.project(10);
        x.project(10);
        x.person(20);
        x.person(10);
        x.pledge(0, 0, 15, 1, 500);
        x.pledge(1, 0, 10, 0, 0);
        x.callIn(0);
        due("6: what is gone does not leave the purse", x.personOf(0, 0), 20);
        due("4: what is gone does not count", x.pledge(0, 1, 20, 0, 0), 0);
    }

    /** Goals, purses and amounts at their greatest. */
    private static void greatestSums() {
        PledgeTips x = with(8, 999);
        for (int i = 0; i < 8; i++) {
            x.pledge(i, 0, 999, 0, 0);
        }
        due("8: all pledges", x.projectOf(0, 1), 7992);
        due("8: those that stand", x.projectOf(0, 2), 7992);
        due("8: none is needed", x.projectOf(0, 8), 0);
        due("6: all the money", x.callIn(0), 7992);
        due("13: all the money", x.count(10), 7992);
        due("9: the whole purse", x.personOf(7, 3), 999);
        due("9: nothing is left", x.personOf(7, 0), 0);
    }

    /** "the turn of a pledge is how many were made ahead of it so far". */
    private static void turns() {
        PledgeTips x = with(1, 5, 5);
        x.pledge(0, 0, 0, 0, 0);
        x.pledge(0, 0, 5, 0, 0);
        due("7: the first turn; a refused one is not made", x.pledgeOf(0, 8), 0);
        x.pledge(0, 0, 5, 1, 999);
        due("7: the second turn", x.pledgeOf(1, 8), 1);
        x.withdraw(0);
        x.pledge(0, 0, 5, 0, 0);
        due("7: a withdrawn one was made", x.pledgeOf(0, 8), 2);
        x.callIn(0);
        x.pledge(0, 1, 5, 0, 0);
        due("7: one that is gone was made", x.pledgeOf(1, 8), 3);
        due("7: a called one keeps its turn", x.pledgeOf(0, 8), 2);
        x.undo();
        x.pledge(0, 1, 5, 0, 0);
        due("7: one that was undone was not made", x.pledgeOf(1, 8), 3);
        type(x, "p0,1,5,0,0;w2;p0,1,5,0,0;");
        x.play();
        due("7: texts make pledges, too", x.pledgeOf(2, 8), 5);
    }

    /** "kind 0: always (the value is 0)". */
    private static void kindAlways() {
        PledgeTips x = with(1, 5);
        due("4: value 1", x.pledge(0, 0, 1, 0, 1), INVALID);
        due("4: value -1", x.pledge(0, 0, 1, 0, -1), INVALID);
        due("4: value 0", x.pledge(0, 0, 1, 0, 0), 0);
        due("kind 0: alone and far from the goal", x.pledgeOf(0, 6), 1);
    }

    /** "kind 1: the other pledges of the set for the same project come to the value (1 to 999) or more". */
    private static void kindOthersComeTo() {
        PledgeTips x = with(2, 5, 5);
        x.pledge(0, 0, 5, 1, 1);
        due("kind 1: itself does not count", x.pledgeOf(0, 6), 0);
        x.pledge(0, 1, 5, 0, 0);
        due("kind 1: nor do those for others", x.pledgeOf(0, 6), 0);
        x.pledge(0, 0, 5, 1, 6);
        due("kind 1: nor do those that fall", x.pledgeOf(0, 6), 0);
        due("kind 1: one less than the value", x.setOf(5, 1), 4);
        x.pledge(0, 0, 1, 0, 0);
        due("kind 1: the least value, and exactly the value", x.count(4), 15);

        x = with(2, 5);
        x.pledge(0, 0, 1, 1, 999);
        x.pledge(1, 0, 998, 0, 0);
        due("kind 1: one less than the greatest value", x.count(4), 2);
        x.pledge(1, 0, 1, 0, 0);
        due("kind 1: exactly the greatest value", x.count(4), 7);
        x.pledge(0, 0, 1, 0, 0);
        due("kind 1: more than the value", x.count(4), 15);
    }

    /** "kind 2: at least as many others of the set as the value tells (1 to 11) are for the same project". */
    private static void kindOthersAreMany() {
        PledgeTips x = with(2, 5, 5);
        x.pledge(0, 0, 900, 2, 1);
        due("kind 2: itself does not count", x.pledgeOf(0, 6), 0);
        x.pledge(1, 1, 1, 0, 0);
        due("kind 2: nor do those for others", x.pledgeOf(0, 6), 0);
        x.pledge(1, 0, 1, 1, 999);
        due("kind 2: nor do those that fall", x.pledgeOf(0, 6), 0);
        x.pledge(0, 0, 1, 0, 0);
        due("kind 2: the least value, one other of the same person", x.pledgeOf(0, 6), 1);

        x = with(2, 5);
        x.pledge(0, 0, 1, 2, 11);
        for (int i = 1; i < 11; i++) {
            x.pledge(1, 0, 20, 0, 0);
        }
        due("kind 2: one less than the greatest value", x.pledgeOf(0, 6), 0);
        x.pledge(1, 0, 1, 0, 0);
        due("kind 2: exactly the greatest value", x.pledgeOf(0, 6), 1);
        x.withdraw(0);
        x.pledge(0, 0, 1, 2, 10);
        due("kind 2: more than the value", x.pledgeOf(0, 6), 1);
    }

    /** "kind 3: there is a pledge of the set of the person with the number of the value, another person". */
    private static void kindPersonTakesPart() {
        PledgeTips x = with(8, 5, 5);
        due("kind 3: oneself", x.pledge(7, 0, 1, 3, 7), INVALID);
        due("kind 3: one behind the last person", x.pledge(7, 0, 1, 3, 8), INVALID);
        due("kind 3: the first person", x.pledge(7, 0, 1, 3, 0), 0);
        due("kind 3: the last person", x.pledge(6, 0, 1, 3, 7), 1);
        due("kind 3: there is no pledge of person 0", x.count(4), 0);
        x.pledge(0, 1, 1, 1, 5);
        due("kind 3: the one there is falls", x.count(4), 0);
        x.pledge(1, 0, 1, 0, 0);
        due("kind 3: others do not do", x.count(4), 8);
        x.pledge(0, 1, 1, 0, 0);
        due("kind 3: one for another project does", x.count(4), 27);
    }

    /** "kind 4: .. another project, has its goal: its pledges of the set come to its goal or more". */
    private static void kindProjectHasGoal() {
        PledgeTips x = with(3, 5, 1, 999, 10);
        due("kind 4: the same project", x.pledge(0, 3, 1, 4, 3), INVALID);
        due("kind 4: one behind the last project", x.pledge(0, 3, 1, 4, 4), INVALID);
        due("kind 4: the last project", x.pledge(0, 0, 5, 4, 3), 0);
        due("kind 4: the first project", x.pledge(0, 3, 8, 4, 0), 1);
        due("kind 4: one less than the goal", x.setOf(3, 1), 1);
        due("kind 4: neither stands", x.count(4), 0);
        x.pledge(1, 0, 90, 0, 0);
        due("kind 4: those for others do not count", x.count(4), 6);
        x.pledge(1, 3, 2, 1, 9);
        due("kind 4: those that fall do not count", x.count(4), 6);
        x.pledge(1, 3, 2, 0, 0);
        due("kind 4: exactly the goal", x.count(4), 31);
        x.pledge(0, 1, 1, 4, 2);
        due("kind 4: a project without pledges has not its goal", x.pledgeOf(5, 6), 0);
        x.pledge(1, 2, 800, 0, 0);
        x.pledge(2, 2, 198, 0, 0);
        due("kind 4: one less than the greatest goal", x.pledgeOf(5, 6), 0);
        x.pledge(2, 2, 2, 0, 0);
        due("kind 4: more than the greatest goal", x.pledgeOf(5, 6), 1);
        x.pledge(0, 2, 1, 4, 1);
        due("kind 4: exactly the least goal", x.pledgeOf(9, 6), 1);
    }

    /** "Called pledges count as members of each set here, and their own conditions do not matter any more." */
    private static void calledAreMembers() {
        PledgeTips x = with(3, 5, 5, 5);
        x.pledge(0, 0, 5, 3, 1);
        x.pledge(1, 1, 5, 4, 0);
        x.callIn(0);
        due("one of kind 3 is called; its condition matters no more", x.withdraw(1), 2);
        due("it stands", x.pledgeOf(0, 6), 1);
        due("it falls in no wave", x.pledgeOf(0, 7), MISSING);
        due("there is no wave", x.count(5), 0);
        x.pledge(1, 1, 5, 4, 0);
        x.pledge(2, 2, 5, 3, 0);
        due("a called one makes its project have its goal", x.setOf(2, 0), 1);
        due("a called one is a pledge of its person", x.setOf(4, 0), 1);
        due("also for what stands", x.count(4), 7);
        due("also for what would stand", x.standing(6), 1);
        due("sets of the two open ones", x.count(6), 4);
    }

    /** "Of all such sets there is a greatest one, which has all the others within it". */
    private static void greatestSet() {
        PledgeTips x = with(2, 5, 5);
        due("none of no pledges", x.count(4), 0);
        due("the empty set of no pledges", x.count(6), 1);
        x.pledge(0, 0, 3, 1, 4);
        x.pledge(1, 0, 4, 1, 3);
        due("two that hold one another by kind 1", x.count(4), 3);
        due("the empty set holds, and both together", x.count(6), 2);
        x.pledge(0, 1, 3, 3, 1);
        x.pledge(1, 1, 4, 3, 0);
        due("two more that hold one another", x.count(4), 15);
        due("the first pair with any of the other, or the other pair alone", x.count(6), 6);
        x.withdraw(0);
        x.withdraw(1);
        due("two that hold one another by kind 3", x.count(4), 12);
        x.withdraw(2);
        due("one of them alone", x.count(4), 0);
        due("the empty set alone", x.count(6), 1);

        x = with(2, 5, 5);
        x.pledge(0, 0, 5, 4, 1);
        x.pledge(1, 1, 5, 4, 0);
        due("two that hold one another by kind 4", x.count(4), 3);
        x = with(1, 5);
        for (int i = 0; i < 12; i++) {
            x.pledge(0, 0, 1, 2, 11);
        }
        due("twelve that hold one another by kind 2", x.count(4), 4095);
        due("all or none of them", x.count(6), 2);
        x.withdraw(11);
        due("eleven of them", x.count(4), 0);
    }

    /** "in each wave, the first one being the wave 1, all pledges that are left are looked at together". */
    private static void wavesOfFalling() {
        PledgeTips x = with(4, 50);
        due("13: no pledges, no wave", x.count(5), 0);
        x.pledge(0, 0, 1, 3, 1);
        due("7: the first wave is 1", x.pledgeOf(0, 7), 1);
        due("13: one wave", x.count(5), 1);
        x.pledge(1, 0, 1, 3, 2);
        due("7: a greater number falls first", x.pledgeOf(1, 7), 1);
        due("7: it is there still in wave 1", x.pledgeOf(0, 7), 2);
        x.pledge(3, 0, 1, 3, 0);
        due("7: a smaller number falls first", x.pledgeOf(2, 7), 3);
        x.pledge(3, 0, 1, 3, 2);
        due("7: several in wave 1", x.pledgeOf(3, 7), 1);
        due("13: waves in which some fall", x.count(5), 3);
        due("13: none stands", x.count(4), 0);
        x.pledge(2, 0, 1, 0, 0);
        due("13: none falls", x.count(5), 0);
        due("13: all stand", x.count(4), 31);
        due("7: no wave", x.pledgeOf(4, 7), MISSING);
    }

    /** "A project has its goal if its pledges that stand come to it." */
    private static void exactlyTheGoal() {
        PledgeTips x = with(2, 10, 1);
        due("8: no pledges", x.projectOf(1, 3), 0);
        x.pledge(0, 0, 9, 0, 0);
        due("8: one less", x.projectOf(0, 3), 0);
        due("6: one less", x.callIn(0), IMPOSSIBLE);
        x.pledge(1, 0, 1, 1, 10);
        due("8: with one that falls", x.projectOf(0, 3), 0);
        due("6: with one that falls", x.callIn(0), IMPOSSIBLE);
        due("13: no project has its goal", x.count(7), 0);
        x.pledge(1, 0, 1, 0, 0);
        due("8: it brings in another one", x.projectOf(0, 2), 11);
        x.withdraw(1);
        due("8: exactly the goal", x.projectOf(0, 3), 1);
        due("13: one project has its goal", x.count(7), 1);
        x.pledge(0, 1, 1, 0, 0);
        due("13: both projects have their goals", x.count(7), 2);
        due("6: exactly the goal", x.callIn(0), 10);
        due("6: exactly the least goal", x.callIn(1), 1);
        due("13: closed ones have their goals", x.count(7), 2);
    }

    /** "An open pledge can be withdrawn; its number is free then." */
    private static void withdrawnNumber() {
        PledgeTips x = with(1, 5);
        due("5: nothing is there yet", x.withdraw(0), INVALID);
        x.pledge(0, 0, 1, 1, 5);
        due("5: one that does not stand", x.withdraw(0), 0);
        due("5: it is withdrawn nevertheless", x.count(9), 1);
        due("5: there is none of its number", x.pledgeOf(0, 6), INVALID);
        due("5: it can't be withdrawn twice", x.withdraw(0), INVALID);
        due("5: the number is free", x.pledge(0, 0, 2, 0, 0), 0);
        for (int i = 1; i < 12; i++) {
            x.pledge(0, 0, 2, 0, 0);
        }
        due("5: the last number", x.withdraw(11), 2048);
        due("5: one behind the last number", x.withdraw(12), INVALID);
        due("5: the last number is free", x.pledge(0, 0, 2, 0, 0), 11);
    }

    /** "all its open pledges that stand are called .. and its other pledges are gone". */
    private static void calledAndGone() {
        PledgeTips x = with(3, 10, 10);
        x.pledge(0, 0, 4, 0, 0);
        x.pledge(1, 0, 6, 3, 0);
        x.pledge(1, 0, 9, 1, 500);
        x.pledge(2, 1, 3, 0, 0);
        x.pledge(2, 1, 3, 1, 500);
        x.pledge(0, 0, 5, 2, 1);
        due("6: all that stand, more than the goal", x.callIn(0), 15);
        due("6: called ones", x.projectOf(0, 5), 35);
        due("6: one that did not stand is gone", x.pledgeOf(2, 0), INVALID);
        due("6: one for another project that stands is there", x.pledgeOf(3, 5), 0);
        due("6: one for another project that falls is there", x.pledgeOf(4, 5), 0);
        due("6: both called ones of a person leave the purse", x.personOf(0, 0), 990);
        due("6: the one that is gone does not", x.personOf(1, 0), 993);
        due("6: nor do open ones", x.personOf(2, 0), 999);
        due("9: called of person 0", x.personOf(0, 3), 9);
        due("9: called of person 2", x.personOf(2, 3), 0);
        due("6: no open one is left for it", x.count(3), 2);
        due("5: a called one can't be withdrawn", x.withdraw(0), IMPOSSIBLE);
        due("5: nor can one that is gone", x.withdraw(2), INVALID);
    }

    /** "For a closed project nothing can be pledged." */
    private static void closedProjects() {
        PledgeTips x = with(2, 5, 5);
        x.pledge(0, 0, 5, 0, 0);
        due("8: not closed by its goal alone", x.projectOf(0, 4), 0);
        due("4: it can have more than its goal", x.pledge(1, 0, 1, 0, 0), 1);
        x.callIn(0);
        due("8: closed", x.projectOf(0, 4), 1);
        due("8: the other one is not", x.projectOf(1, 4), 0);
        due("4: nothing for the closed one", x.pledge(0, 0, 1, 0, 0), IMPOSSIBLE);
        due("4: it may be a value", x.pledge(0, 1, 5, 4, 0), 2);
        due("6: not called in twice", x.callIn(0), IMPOSSIBLE);
        due("6: the other one", x.callIn(1), 5);
        due("8: the first one is closed still", x.projectOf(0, 4), 1);
        due("8: so is the second one", x.projectOf(1, 4), 1);
        due("6: the first one is not called in again", x.callIn(0), IMPOSSIBLE);
        due("4: nothing for the first one", x.pledge(0, 0, 1, 0, 0), IMPOSSIBLE);
        x.undo();
        x.undo();
        x.undo();
        due("4: open again", x.pledge(0, 0, 1, 0, 0), 2);
    }

    /** "the first one behind which the project has its goal". */
    private static void tipIsTheFirst() {
        PledgeTips x = with(2, 10, 1);
        due("8: no tip without pledges", x.projectOf(0, 7), MISSING);
        due("8: none needed without pledges", x.projectOf(0, 8), MISSING);
        x.pledge(0, 0, 9, 0, 0);
        due("8: no tip with one less", x.projectOf(0, 7), MISSING);
        due("8: none needed with one less", x.projectOf(0, 8), MISSING);
        x.pledge(0, 0, 1, 0, 0);
        due("8: the last one, exactly the goal", x.projectOf(0, 7), 1);
        due("8: both are needed", x.projectOf(0, 8), 3);
        x.pledge(1, 0, 10, 0, 0);
        due("8: not a later one", x.projectOf(0, 7), 1);
        due("8: none is needed, each by itself", x.projectOf(0, 8), 0);
        x.pledge(1, 1, 1, 0, 0);
        due("8: a project of its own", x.projectOf(1, 7), 3);
        x.withdraw(0);
        due("8: as if it had not been made", x.projectOf(0, 7), 2);
        due("8: one is needed", x.projectOf(0, 8), 4);
        x.withdraw(1);
        due("8: the first of all", x.projectOf(0, 7), 2);
    }

    /** "made anew in the order of their turns". */
    private static void tipByTurns() {
        PledgeTips x = with(2, 10);
        for (int i = 0; i < 12; i++) {
            x.pledge(0, 0, 1, 0, 0);
        }
        due("8: the tenth one", x.projectOf(0, 7), 9);
        x.withdraw(11);
        x.withdraw(0);
        x.withdraw(1);
        x.pledge(0, 0, 1, 0, 0);
        due("8: the last turn and the least number", x.projectOf(0, 7), 0);
        x.pledge(0, 0, 1, 0, 0);
        due("8: not the one behind it", x.projectOf(0, 7), 0);
        x.withdraw(0);
        due("8: now the one behind it", x.projectOf(0, 7), 1);
        x.pledge(0, 0, 1, 0, 0);
        x.withdraw(9);
        due("8: a smaller number behind a greater one", x.projectOf(0, 7), 0);
        due("8: all ten are needed", x.projectOf(0, 8), 1535);

        x = with(2, 12, 5);
        for (int i = 0; i < 12; i++) {
            x.pledge(0, 0, 1, 0, 0);
        }
        due("8: the last of twelve", x.projectOf(0, 7), 11);
        due("8: all twelve are needed", x.projectOf(0, 8), 4095);
        x.withdraw(0);
        x.pledge(1, 1, 5, 0, 0);
        x.withdraw(1);
        x.pledge(0, 0, 2, 0, 0);
        due("8: number 11 is one of those ahead of the tip", x.projectOf(0, 7), 1);
    }

    /** "(called ones count from their turns on)". */
    private static void tipOfCalled() {
        PledgeTips x = with(3, 30, 10);
        x.pledge(1, 1, 5, 0, 0);
        x.pledge(0, 0, 30, 1, 4);
        x.pledge(1, 0, 4, 0, 0);
        x.pledge(2, 1, 5, 4, 0);
        due("8: open, its condition matters", x.projectOf(0, 7), 2);
        due("8: the other one", x.projectOf(1, 7), 3);
        x.callIn(0);
        due("8: called, its condition matters no more", x.projectOf(0, 7), 1);
        due("8: the other one as before", x.projectOf(1, 7), 3);
        due("8: needed are open ones alone", x.projectOf(1, 8), 9);
        due("8: a closed project needs no open one", x.projectOf(0, 8), 0);

        x = with(2, 5, 10);
        x.pledge(0, 1, 10, 4, 0);
        x.pledge(1, 0, 4, 0, 0);
        x.pledge(1, 0, 5, 0, 0);
        x.callIn(0);
        due("8: a called one does not count ahead of its turn", x.projectOf(1, 7), 2);
    }

    /** "The push of a project is 0 if it has its goal; otherwise the least amount of one more pledge for it". */
    private static void pushOfNone() {
        PledgeTips x = with(2, 999, 1, 9);
        due("8: the greatest push", x.projectOf(0, 9), 999);
        due("8: the least push", x.projectOf(1, 9), 1);
        x.pledge(0, 0, 998, 0, 0);
        due("8: one less than the goal", x.projectOf(0, 9), 1);
        x.pledge(1, 0, 1, 0, 0);
        due("8: exactly the goal", x.projectOf(0, 9), 0);
        x.pledge(1, 0, 1, 0, 0);
        due("8: more than the goal", x.projectOf(0, 9), 0);
        x.callIn(0);
        due("8: a closed project", x.projectOf(0, 9), MISSING);
        for (int wanted = 1; wanted <= 9; wanted++) {
            due("8: push " + wanted, x.projectOf(2, 9), 10 - wanted);
            x.pledge(1, 2, 1, 0, 0);
        }
        due("8: no push is left", x.projectOf(2, 9), 0);
        due("8: no number is left", x.pledge(1, 2, 1, 0, 0), LIMIT);
    }

    /** "without condition, of someone else than all persons, with which it would have its goal". */
    private static void pushByKinds() {
        PledgeTips x = with(8, 20, 5, 12);
        x.pledge(0, 0, 13, 1, 3);
        due("8: what is left to the goal", x.projectOf(0, 9), 7);
        x.pledge(1, 0, 6, 1, 16);
        due("8: it must come to the value of kind 1", x.projectOf(0, 9), 3);
        x.withdraw(1);
        x.withdraw(0);
        x.pledge(0, 0, 19, 2, 1);
        due("8: it is one of many for kind 2", x.projectOf(0, 9), 1);
        x.withdraw(0);
        x.pledge(0, 0, 20, 2, 1);
        due("8: where any amount would do, it is the least amount there is", x.projectOf(0, 9), 1);
        x.withdraw(0);
        x.pledge(0, 0, 19, 2, 2);
        due("8: it is one alone for kind 2", x.projectOf(0, 9), 20);
        x.withdraw(0);
        for (int person = 0; person < 8; person++) {
            x.pledge((person + 1) % 8, 0, 19, 3, person);
            due("8: it is not of person " + person, x.projectOf(0, 9), 20);
            x.withdraw(0);
        }
        x.pledge(0, 0, 17, 4, 1);
        x.pledge(1, 1, 2, 2, 1);
        due("8: it is for this project alone", x.projectOf(0, 9), 20);
        due("8: it counts for the goal of kind 4, here to no avail", x.projectOf(1, 9), 3);
        x.pledge(2, 1, 5, 4, 0);
        due("8: both goals at once", x.projectOf(0, 9), 3);
        due("8: those that stand are as before", x.count(4), 0);
        due("8: it is not made", x.count(8), 16);

        x = with(4, 10, 8);
        x.pledge(0, 0, 9, 3, 1);
        x.pledge(1, 1, 7, 1, 500);
        due("8: those that fall are no help", x.projectOf(0, 9), 10);
        x.pledge(2, 1, 8, 0, 0);
        x.callIn(1);
        x.pledge(3, 0, 4, 3, 2);
        due("8: called ones are members", x.projectOf(0, 9), 6);
    }
}
