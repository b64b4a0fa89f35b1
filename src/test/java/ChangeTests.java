import java.util.List;
import java.util.function.Consumer;
import java.util.function.Supplier;
import java.util.function.ToIntFunction;

/** The sentences of "Changes and errors": the history, calls that are refused, and calls that only tell. */
final class ChangeTests extends Scenes {
    private ChangeTests() {
    }

    static void run() {
        whatIsAChange();
        fourStates();
        oldestIsDropped();
        undoOfEmptyHistory();
        undoToTheStart();
        undoRestoresEverything();
        undoLeavesTheText();
        undoIsNoChange();
        undoAndOtherChanges();
        refusedWithNothingThere();
        refusedAmongSome();
        refusedWhenFull();
        refusedTexts();
        tellingChangesNothing();
        objectsApart();
    }

    /** Two projects, of which number 0 is closed, three persons, three pledges, four states and a text with a fault. */
    private static PledgeTips some() {
        PledgeTips x = with(2, 10, 20);
        x.person(30);
        x.pledge(0, 0, 10, 3, 1);
        x.pledge(1, 1, 19, 0, 0);
        x.pledge(2, 1, 5, 1, 20);
        x.callIn(0);
        type(x, "h5;c1;");
        return x;
    }

    /** The greatest numbers: project 3 has its goal by the pledges 10 and 11 of the persons 6 and 7. */
    private static PledgeTips last() {
        PledgeTips x = with(8, 5, 5, 5, 5);
        for (int i = 0; i < 12; i++) {
            x.pledge(Math.max(0, i - 4), i < 10 ? 0 : 3, 3, 0, 0);
        }
        return x;
    }

    /** Tells the first answer alone that is not the same. */
    private static void dueSame(String what, String got, String want) {
        String[] answers = got.split(" ");
        String[] wanted = want.split(" ");
        int i = 0;
        while (i < answers.length - 1 && answers[i].equals(wanted[i])) {
            i++;
        }
        Check.isTrue(what + ": " + answers[i] + ", due is " + wanted[i], answers[i].equals(wanted[i]));
    }

    /** Compares objects with and without the call, in all that they tell, as they are and behind each undo. */
    private static void dueNoTrace(String what, Supplier<PledgeTips> scene, Consumer<PledgeTips> call) {
        for (int undone = 0; undone <= 4; undone++) {
            PledgeTips with = scene.get();
            PledgeTips without = scene.get();
            call.accept(with);
            for (int i = 0; i < undone; i++) {
                due(what + ": undo " + i, with.undo(), without.undo());
            }
            dueSame(what + ": behind " + undone + " undos", told(with), told(without));
        }
    }

    private static void dueRefused(String what, Supplier<PledgeTips> scene, ToIntFunction<PledgeTips> call, int error) {
        dueNoTrace(what, scene, x -> due(what, call.applyAsInt(x), error));
    }

    /** "The changes are the calls of project, person, pledge, withdraw, callIn and play that return no error." */
    private static void whatIsAChange() {
        PledgeTips x = new PledgeTips();
        due("13: no states at first", x.count(11), 0);
        x.project(0);
        x.type('g');
        x.clearText();
        x.undo();
        due("13: no change so far", x.count(11), 0);
        x.project(5);
        due("13: project is a change", x.count(11), 1);
        x.person(5);
        due("13: person is a change", x.count(11), 2);
        x.pledge(0, 0, 5, 0, 0);
        due("13: pledge is a change", x.count(11), 3);
        x.withdraw(0);
        due("13: withdraw is a change", x.count(11), 4);
        x.undo();
        due("13: undo takes one", x.count(11), 3);
        x.callIn(0);
        due("13: callIn is a change", x.count(11), 4);
        x.undo();
        x.play();
        due("13: play is a change", x.count(11), 4);
        due("14: undo of play", x.undo(), 3);
        x.pledge(0, 0, 1, 0, 0);
        x.withdraw(9);
        x.callIn(9);
        x.person(1000);
        due("13: errors are no changes", x.count(11), 3);
    }

    /** "A history of at most 4 states is kept". */
    private static void fourStates() {
        PledgeTips x = new PledgeTips();
        for (int changes = 1; changes <= 7; changes++) {
            due("3: person", x.person(changes), changes - 1);
            due("13: states behind " + changes, x.count(11), Math.min(changes, 4));
        }
        for (int left = 3; left >= 0; left--) {
            due("14: states left", x.undo(), left);
            due("13: states left", x.count(11), left);
            due("14: persons left", x.count(1), 3 + left);
            due("14: the last purse", x.personOf(2 + left, 0), 3 + left);
            due("14: no person behind it", x.personOf(3 + left, 0), INVALID);
        }
        due("14: no more", x.undo(), IMPOSSIBLE);
        due("14: that changes nothing", x.count(1), 3);
    }

    /** "if there are 5 states then, the oldest one is dropped": by each kind of change. */
    private static void oldestIsDropped() {
        dueDropped("project", x -> x.project(7), 4);
        dueDropped("person", x -> x.person(7), 4);
        dueDropped("pledge", x -> x.pledge(1, 1, 7, 0, 0), 4);
        dueDropped("withdraw", x -> x.withdraw(0), 4);
        dueDropped("callIn", x -> x.callIn(0), 4);
        dueDropped("play", PledgeTips::play, 4);
        dueDropped("no change", x -> x.withdraw(7), 3);
    }

    /** Ahead of the call there are 2 projects, 2 persons and 3 pledges, and as many as that were made. */
    private static void dueDropped(String what, ToIntFunction<PledgeTips> call, int states) {
        PledgeTips x = with(2, 10, 20);
        for (int i = 0; i < 3; i++) {
            x.pledge(0, 0, 10, 0, 0);
        }
        call.applyAsInt(x);
        for (int left = 3; left >= 0; left--) {
            due("14: undo behind " + what, x.undo(), left);
        }
        due("14: history empty behind " + what, x.undo(), IMPOSSIBLE);
        due("14: persons behind " + what, x.count(1), states == 4 ? 2 : 1);
        due("14: pledges behind " + what, x.count(8), 0);
    }

    /** "NOT_POSSIBLE if it is empty." */
    private static void undoOfEmptyHistory() {
        PledgeTips x = new PledgeTips();
        due("14: nothing there yet", x.undo(), IMPOSSIBLE);
        x.project(5);
        due("14: one state", x.undo(), 0);
        due("14: none any more", x.undo(), IMPOSSIBLE);
        due("14: and again", x.undo(), IMPOSSIBLE);
        due("2: number 0 again", x.project(6), 0);
        due("2: its goal", x.projectOf(0, 0), 6);
        due("14: one state again", x.undo(), 0);
    }

    /** Back through four changes, the object tells what a new one tells. */
    private static void undoToTheStart() {
        PledgeTips x = with(1, 5);
        x.pledge(0, 0, 5, 0, 0);
        x.callIn(0);
        for (int left = 3; left >= 0; left--) {
            due("14: undo", x.undo(), left);
        }
        dueSame("14: as new", told(x), told(new PledgeTips()));
    }

    /** "each change records everything before it but the text". */
    private static void undoRestoresEverything() {
        Supplier<PledgeTips> scene = ChangeTests::some;
        dueUndone(scene, "project", x -> x.project(7));
        dueUndone(scene, "person", x -> x.person(7));
        dueUndone(scene, "pledge", x -> x.pledge(2, 1, 7, 4, 0));
        dueUndone(scene, "withdraw of one that stands", x -> x.withdraw(1));
        dueUndone(scene, "withdraw of one that falls", x -> x.withdraw(2));
        dueUndone(Scenes::chain, "callIn", x -> x.callIn(0));
        dueUndone(Scenes::chain, "withdraw of one that holds others", x -> x.withdraw(0));
        dueUndone(Scenes::chain, "a pledge that brings others in", x -> x.pledge(0, 1, 5, 0, 0));
        dueUndone(ChangeTests::last, "callIn of the last ones", x -> x.callIn(3));
        dueUndone(ChangeTests::last, "withdraw of the last one", x -> x.withdraw(11));
        dueUndone(scene, "play of nothing", x -> {
            x.clearText();
            x.play();
            type(x, "h5;c1;");
        });
        dueUndone(scene, "play of much", x -> {
            retype(x, "g9;h8;w1;w2;p0,2,9,0,0;p1,1,50,3,2;c2;");
            due("18: much", x.play(), 7);
            retype(x, "h5;c1;");
        });
    }

    /** The change drops the oldest state, so no more than that one is missing behind it. */
    private static void dueUndone(Supplier<PledgeTips> scene, String what, Consumer<PledgeTips> change) {
        for (int undone = 0; undone <= 3; undone++) {
            PledgeTips with = scene.get();
            PledgeTips without = scene.get();
            change.accept(with);
            due("13: states behind " + what, with.count(11), 4);
            due("14: undo of " + what, with.undo(), 3);
            for (int i = 0; i < undone; i++) {
                with.undo();
                without.undo();
            }
            due("14: states behind undos of " + what, with.count(11), 3 - undone);
            due("14: states with none", without.count(11), 4 - undone);
            String want = told(without).replace("count11=" + (4 - undone), "count11=" + (3 - undone));
            dueSame("14: undone " + what + " and " + undone, told(with), want);
        }
    }

    private static void undoLeavesTheText() {
        PledgeTips x = new PledgeTips();
        type(x, "g5;");
        x.play();
        type(x, "h7;");
        x.person(9);
        type(x, "w");
        due("14: undo of the person", x.undo(), 1);
        due("13: the text is as long as it was", x.count(12), 7);
        due("14: undo of play", x.undo(), 0);
        due("13: also now", x.count(12), 7);
        due("17: and says the same", x.fault(0), 6);
        x.clearText();
        x.play();
        type(x, "g4;");
        x.undo();
        due("18: the new text", x.play(), 1);
        due("18: its project", x.projectOf(0, 0), 4);
        for (int i = 0; i < 80; i++) {
            x.type('a');
        }
        x.undo();
        due("15: full still", x.type('a'), LIMIT);
    }

    private static void undoIsNoChange() {
        PledgeTips x = with(3);
        due("14: undo", x.undo(), 2);
        due("14: undo of undo is none", x.undo(), 1);
        due("14: persons", x.count(1), 1);
        due("14: undo", x.undo(), 0);
        due("14: persons", x.count(1), 0);
    }

    /** States that were left behind an undo are kept when other changes come. */
    private static void undoAndOtherChanges() {
        PledgeTips x = with(4);
        x.undo();
        x.undo();
        x.project(11);
        x.project(12);
        due("13: two old states and two new ones", x.count(11), 4);
        x.project(13);
        due("13: the oldest one is dropped", x.count(11), 4);
        due("14: undo", x.undo(), 3);
        due("14: two projects", x.count(0), 2);
        due("14: undo", x.undo(), 2);
        due("14: undo", x.undo(), 1);
        due("14: no project", x.count(0), 0);
        due("14: two persons", x.count(1), 2);
        due("14: undo of an old one", x.undo(), 0);
        due("14: one person", x.count(1), 1);
        due("14: the first state is dropped", x.undo(), IMPOSSIBLE);
    }

    /** "A call that returns an error changes nothing." */
    private static void refusedWithNothingThere() {
        Supplier<PledgeTips> scene = PledgeTips::new;
        dueRefused("2: goal 0", scene, x -> x.project(0), INVALID);
        dueRefused("3: purse -1", scene, x -> x.person(-1), INVALID);
        dueRefused("4: nobody", scene, x -> x.pledge(0, 0, 1, 0, 0), INVALID);
        dueRefused("5: no pledge", scene, x -> x.withdraw(0), INVALID);
        dueRefused("6: no project", scene, x -> x.callIn(0), INVALID);
        dueRefused("14: no state", scene, PledgeTips::undo, IMPOSSIBLE);
        dueRefused("15: no character", scene, x -> x.type(31), INVALID);
        dueRefused("4: no project", () -> with(1), x -> x.pledge(0, 0, 1, 0, 0), INVALID);
        dueRefused("4: no person", () -> with(0, 5), x -> x.pledge(0, 0, 1, 0, 0), INVALID);
    }

    private static void refusedAmongSome() {
        Supplier<PledgeTips> scene = ChangeTests::some;
        dueRefused("2: goal 1000", scene, x -> x.project(1000), INVALID);
        dueRefused("3: purse 1000", scene, x -> x.person(1000), INVALID);
        dueRefused("4: person 3", scene, x -> x.pledge(3, 1, 1, 0, 0), INVALID);
        dueRefused("4: project 2", scene, x -> x.pledge(0, 2, 1, 0, 0), INVALID);
        dueRefused("4: amount 0", scene, x -> x.pledge(0, 1, 0, 0, 0), INVALID);
        dueRefused("4: kind 5", scene, x -> x.pledge(0, 1, 1, 5, 0), INVALID);
        dueRefused("4: value 1", scene, x -> x.pledge(0, 1, 1, 0, 1), INVALID);
        dueRefused("4: closed", scene, x -> x.pledge(0, 0, 1, 0, 0), IMPOSSIBLE);
        dueRefused("4: too dear", scene, x -> x.pledge(2, 1, 26, 0, 0), IMPOSSIBLE);
        dueRefused("5: pledge 3", scene, x -> x.withdraw(3), INVALID);
        dueRefused("5: called", scene, x -> x.withdraw(0), IMPOSSIBLE);
        dueRefused("6: closed", scene, x -> x.callIn(0), IMPOSSIBLE);
        dueRefused("6: no goal", scene, x -> x.callIn(1), IMPOSSIBLE);
        dueRefused("6: project 2", scene, x -> x.callIn(2), INVALID);
        dueRefused("18: a fault", scene, PledgeTips::play, IMPOSSIBLE);
    }

    private static void refusedWhenFull() {
        Supplier<PledgeTips> scene = Scenes::full;
        dueRefused("2: a fifth one", scene, x -> x.project(5), LIMIT);
        dueRefused("3: a ninth one", scene, x -> x.person(5), LIMIT);
        dueRefused("4: a thirteenth one", scene, x -> x.pledge(7, 0, 1, 0, 0), LIMIT);
        dueRefused("4: a thirteenth one, closed", scene, x -> x.pledge(7, 3, 1, 0, 0), IMPOSSIBLE);
        dueRefused("5: pledge 12", scene, x -> x.withdraw(12), INVALID);
        dueRefused("6: no goal", scene, x -> x.callIn(2), IMPOSSIBLE);
        dueRefused("15: character 81", scene, x -> x.type('g'), LIMIT);
        dueRefused("18: a fault at the end", scene, PledgeTips::play, IMPOSSIBLE);
    }

    /** The first commands of a text leave no trace if a later one is not possible. */
    private static void refusedTexts() {
        String[] texts = {"g7;h7;w1;w2;p0,2,7,0,0;c2;w0;", "w1;w1;", "g5;g5;g5;", "p2,1,25,0,0;p2,1,1,0,0;", "w2;x"};
        for (String text : texts) {
            Supplier<PledgeTips> scene = () -> {
                PledgeTips x = some();
                retype(x, text);
                return x;
            };
            dueRefused("18: " + text, scene, PledgeTips::play, IMPOSSIBLE);
        }
    }

    /** Each question, with arguments in their ranges and out of them, leaves the object as it was. */
    private static void tellingChangesNothing() {
        for (Supplier<PledgeTips> scene : List.<Supplier<PledgeTips>>of(
                PledgeTips::new, ChangeTests::some, Scenes::chain, Scenes::full)) {
            for (int what = -1; what <= 13; what++) {
                int asked = what;
                dueNoTrace("telling " + what, scene, x -> {
                    x.count(asked);
                    x.pledgeOf(1, asked);
                    x.projectOf(1, asked);
                    x.personOf(1, asked);
                    x.setOf(2, asked);
                    x.standing(asked);
                    x.orderAt(1, asked);
                    x.orderAt(asked, 0);
                    x.fault(asked);
                });
            }
        }
    }

    /** "Creates a place": each object is one of its own, whatever is called of others in between. */
    private static void objectsApart() {
        PledgeTips[] mixed = {new PledgeTips(), new PledgeTips()};
        PledgeTips[] alone = {new PledgeTips(), new PledgeTips()};
        for (int step = 0; step < 14; step++) {
            callOfStep(mixed[0], step, 0);
            callOfStep(mixed[1], step, 1);
        }
        for (int i = 0; i < 2; i++) {
            for (int step = 0; step < 14; step++) {
                callOfStep(alone[i], step, i);
            }
            dueSame("1: object " + i + " among others", told(mixed[i]), told(alone[i]));
        }
    }

    /** The two objects have other goals, purses, amounts, kinds and texts. */
    private static void callOfStep(PledgeTips x, int step, int object) {
        switch (step) {
            case 0, 1 -> x.project(10 + 5 * object);
            case 2, 3, 4 -> x.person(40 - 10 * object);
            case 5, 6, 7 -> x.pledge(step - 5, object, 9, object, object);
            case 8, 9 -> x.pledge(step - 8, 1 - object, 7 + object, 3, 2);
            case 10 -> type(x, object == 0 ? "w1;h5" : "w0;c1;");
            case 11 -> x.callIn(object);
            case 12 -> x.play();
            default -> x.undo();
        }
    }
}
