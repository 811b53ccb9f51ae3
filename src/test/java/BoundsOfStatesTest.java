import java.util.ArrayList;
import java.util.List;

/** ACTIONS AND UNDO, and promises 5, 23, 31 and 32: what is remembered, taken back, saved and restored. */
public final class BoundsOfStatesTest {
    private interface OnStudio {
        long call(DanceFloors x);
    }

    private static final String STATE = "throws.IllegalStateException";

    public static void main(String[] args) {
        nothingIsRememberedAtFirst();
        undoTellsHowManyAreLeft();
        oldestIsForgotten();
        undoIsNoAction();
        eachActionIsRemembered();
        actionsWithoutEffectAreRemembered();
        questionsAreNotRemembered();
        undoTakesBackEveryNumber();
        undoLeavesTextAndSlots();
        undoBringsBackEachCount();
        ringGoesRoundManyTimes();
        slotsAreEmptyAtFirst();
        eachSlotKeepsItsOwn();
        slotKeepsWhatWasSaved();
        restoreForgetsAllStates();
        restoreLeavesText();
        saveTellsTheWeeks();
        saveOverwrites();
        Checks.end();
    }

    private static String undo(DanceFloors x) {
        return Checks.answerOf(x::undo);
    }

    private static void nothingIsRememberedAtFirst() {
        DanceFloors x = new DanceFloors();
        Checks.same("undo() of a new object", STATE, undo(x));
        x.dancer();
        Checks.same("undo() of one action", "0", undo(x));
        Checks.same("undo() of none", STATE, undo(x));
        Checks.due("dancers", 0, () -> x.about(3));
    }

    private static void undoTellsHowManyAreLeft() {
        for (int actions = 1; actions <= 16; actions++) {
            DanceFloors x = new DanceFloors();
            for (int i = 0; i < actions; i++) {
                x.weeks(1);
            }
            int kept = Math.min(actions, 14);
            for (int left = kept - 1; left >= 0; left--) {
                Checks.same("undo() of " + actions + " actions", "" + left, undo(x));
            }
            Checks.same("undo() of one more than " + kept, STATE, undo(x));
            Checks.due("weeks behind " + actions + " actions and all undo()", actions - kept, () -> x.about(4));
        }
    }

    private static void oldestIsForgotten() {
        DanceFloors x = new DanceFloors();
        x.dancer();
        for (int i = 0; i < 14; i++) {
            x.weeks(1);
        }
        for (int i = 0; i < 14; i++) {
            x.undo();
        }
        Checks.same("undo() of what is forgotten", STATE, undo(x));
        Checks.due("the dancer stays", 1, () -> x.about(3));
        Checks.due("weeks", 0, () -> x.about(4));
    }

    private static void undoIsNoAction() {
        DanceFloors x = new DanceFloors();
        x.dancer();
        x.dancer();
        x.undo();
        x.undo();
        Checks.same("undo() takes back no undo()", STATE, undo(x));
        Checks.due("dancers", 0, () -> x.about(3));
        for (int i = 0; i < 14; i++) {
            x.weeks(1);
        }
        x.undo();
        x.weeks(2);
        Checks.same("undo() of an action in the place of one that was taken back", "13", undo(x));
        Checks.due("weeks", 13, () -> x.about(4));
    }

    /** Each action on a studio with 14 remembered states: one is taken back, and the oldest is forgotten. */
    private static void remembered(String name, OnStudio action) {
        DanceFloors x = remembering();
        action.call(x);
        for (int left = 13; left >= 0; left--) {
            Checks.same(name + ": undo()", "" + left, undo(x));
        }
        Checks.same(name + ": undo() of the oldest", STATE, undo(x));
        Checks.due(name + ": setting(1) behind all undo()", 3, () -> x.setting(1));
        DanceFloors y = remembering();
        String before = Studios.look(y);
        action.call(y);
        y.undo();
        Checks.same(name + ": what there is behind undo()", before, Studios.look(y));
    }

    private static void notRemembered(String name, OnStudio call) {
        DanceFloors x = remembering();
        call.call(x);
        Checks.same(name + ": undo()", "13", undo(x));
        Checks.due(name + ": setting(1) behind undo()", 15, () -> x.setting(1));
    }

    /** Room for one more of each kind; dancer 0 has a seat in class 0; setting 1 went from 2 to 16. */
    private static DanceFloors remembering() {
        DanceFloors x = Studios.loaded("Sf924020t155ddp00p01c310000c310001e000e010");
        for (int v = 2; v <= 16; v++) {
            x.tune(1, v);
        }
        return x;
    }

    private static void eachActionIsRemembered() {
        remembered("floor()", x -> x.floor(1, 0, 0, 1));
        remembered("teacher()", x -> x.teacher(0, 1));
        remembered("set()", x -> x.set(3, 1, 0, 0, 5, 5));
        remembered("drop()", x -> x.drop(0));
        remembered("dancer()", x -> x.dancer());
        remembered("pass()", x -> x.pass(1));
        remembered("enter()", x -> x.enter(0, 1));
        remembered("leave()", x -> x.leave(0, 0));
        remembered("weeks()", x -> x.weeks(9));
        remembered("tune()", x -> x.tune(0, 9));
    }

    private static void actionsWithoutEffectAreRemembered() {
        remembered("set() that is refused", x -> x.set(3, 1, 0, 0, 0, 0));
        remembered("enter() that is refused", x -> x.enter(0, 0));
        remembered("tune() to what it is", x -> x.tune(0, 2));
        refusalIsTakenBackToo();
    }

    private static void refusalIsTakenBackToo() {
        DanceFloors x = remembering();
        x.set(3, 1, 0, 0, 0, 0);
        x.enter(0, 0);
        Checks.due("refused", 2, () -> x.about(11));
        x.undo();
        Checks.due("refused behind undo()", 1, () -> x.about(11));
        x.undo();
        Checks.due("refused behind undo() of both", 0, () -> x.about(11));
    }

    private static void questionsAreNotRemembered() {
        notRemembered("append()", x -> x.append('d'));
        notRemembered("clearText()", x -> x.clearText());
        notRemembered("errorPosition()", x -> x.errorPosition());
        notRemembered("about()", x -> x.about(0));
        notRemembered("floorOf()", x -> x.floorOf(0, 0));
        notRemembered("teacherOf()", x -> x.teacherOf(0, 0));
        notRemembered("classOf()", x -> x.classOf(0, 0));
        notRemembered("dancerOf()", x -> x.dancerOf(0, 0));
        notRemembered("uses()", x -> x.uses(0));
        notRemembered("setting()", x -> x.setting(0));
        notRemembered("why()", x -> x.why(3, 1, 0, 0, 5, 5));
        notRemembered("whySeat()", x -> x.whySeat(0, 1));
        notRemembered("bestFloor()", x -> x.bestFloor(3, 1, 0, 5, 5));
        notRemembered("emptyIn()", x -> x.emptyIn(0));
        notRemembered("held()", x -> x.held());
        notRemembered("runScript()", x -> x.runScript(1, 30001));
        notRemembered("simulate()", x -> x.simulate(0, 100));
        notRemembered("save()", x -> x.save(0));
    }

    private static void undoTakesBackEveryNumber() {
        String before = Studios.look(Studios.full());
        DanceFloors y = Studios.full();
        y.weeks(9);
        y.enter(0, 0);
        y.drop(0);
        y.drop(8);
        y.set(3, 1, 3, 4, 5, 5);
        y.enter(1, 8);
        y.pass(11);
        y.tune(0, 1);
        y.tune(1, 1);
        y.leave(1, 8);
        for (int i = 0; i < 10; i++) {
            y.undo();
        }
        Checks.same("what there is behind ten undo()", before, Studios.look(y));
    }

    private static void undoLeavesTextAndSlots() {
        DanceFloors x = new DanceFloors();
        x.weeks(1);
        x.append('S');
        x.append('?');
        x.save(0);
        x.weeks(1);
        x.save(1);
        x.undo();
        x.undo();
        Checks.due("errorPosition()", 1, x::errorPosition);
        Checks.due("clearText()", 2, x::clearText);
        Checks.due("restore(0)", 1, () -> x.restore(0));
        Checks.due("restore(1)", 2, () -> x.restore(1));
    }

    private static void undoBringsBackEachCount() {
        DanceFloors x = Studios.loaded("Sf100009t085ddp00p01c310000c310001e000e010");
        List<String> counts = new ArrayList<>();
        OnStudio[] actions = {y -> y.weeks(1), y -> y.enter(0, 0), y -> y.set(3, 1, 0, 0, 0, 0), y -> y.pass(0),
            y -> y.drop(0), y -> y.weeks(2)};
        for (OnStudio action : actions) {
            counts.add(Studios.counts(x));
            action.call(x);
        }
        for (int i = actions.length - 1; i >= 0; i--) {
            x.undo();
            Checks.same("counts before action " + i, counts.get(i), Studios.counts(x));
        }
    }

    private static void ringGoesRoundManyTimes() {
        DanceFloors x = new DanceFloors();
        for (int i = 0; i < 100; i++) {
            x.weeks(1);
            x.weeks(1);
            x.undo();
        }
        Checks.due("weeks", 100, () -> x.about(4));
        for (int left = 12; left >= 0; left--) {
            Checks.same("undo() behind many", "" + left, undo(x));
            int weeks = 87 + left;
            Checks.due("weeks behind it", weeks, () -> x.about(4));
        }
        Checks.same("undo() of none", STATE, undo(x));
    }

    private static void slotsAreEmptyAtFirst() {
        for (int slot = 0; slot < 2; slot++) {
            int i = slot;
            DanceFloors x = new DanceFloors();
            x.weeks(1);
            Checks.same("restore(" + i + ")", STATE, Checks.answerOf(() -> x.restore(i)));
            x.save(1 - i);
            Checks.same("restore(" + i + ") with the other in use", STATE, Checks.answerOf(() -> x.restore(i)));
            Checks.same("undo() behind it", "0", undo(x));
            x.save(i);
            Checks.due("restore(" + i + ") of a state without anything", 0, () -> x.restore(i));
        }
    }

    private static void eachSlotKeepsItsOwn() {
        DanceFloors x = new DanceFloors();
        x.weeks(3);
        Checks.due("save(0)", 3, () -> x.save(0));
        x.weeks(4);
        Checks.due("save(1)", 7, () -> x.save(1));
        x.weeks(5);
        for (int i = 0; i < 3; i++) {
            Checks.due("restore(0)", 3, () -> x.restore(0));
            Checks.due("weeks behind restore(0)", 3, () -> x.about(4));
            Checks.due("restore(1)", 7, () -> x.restore(1));
            Checks.due("weeks behind restore(1)", 7, () -> x.about(4));
        }
    }

    /** What is done behind save() and behind restore() leaves the slot as it is. */
    private static void slotKeepsWhatWasSaved() {
        DanceFloors x = Studios.loaded("Sf924020t155ddp00p01c310000c310001e000e010");
        String saved = Studios.look(x);
        x.save(1);
        for (int i = 0; i < 3; i++) {
            x.weeks(2);
            x.drop(0);
            x.floor(1, 0, 0, 1);
            x.teacher(1, 1);
            x.dancer();
            x.tune(0, 1);
            x.tune(1, 1);
            x.enter(0, 0);
            Checks.due("restore(1)", 0, () -> x.restore(1));
            Checks.same("what there is behind restore(1)", saved, Studios.look(x));
        }
    }

    private static void restoreForgetsAllStates() {
        DanceFloors x = new DanceFloors();
        x.weeks(1);
        x.save(0);
        for (int i = 0; i < 20; i++) {
            x.weeks(1);
        }
        x.restore(0);
        Checks.same("undo() behind restore()", STATE, undo(x));
        for (int i = 0; i < 14; i++) {
            x.weeks(1);
        }
        for (int left = 13; left >= 0; left--) {
            Checks.same("undo() of what was done behind restore()", "" + left, undo(x));
        }
        Checks.due("weeks", 1, () -> x.about(4));
        Checks.same("undo() of restore()", STATE, undo(x));
    }

    private static void restoreLeavesText() {
        DanceFloors x = new DanceFloors();
        Studios.type(x, "Sd");
        x.save(0);
        Studios.type(x, "Sdd?");
        x.restore(0);
        Checks.due("errorPosition()", 3, x::errorPosition);
        Checks.due("clearText()", 4, x::clearText);
    }

    private static void saveTellsTheWeeks() {
        DanceFloors x = new DanceFloors();
        for (int weeks = 0; weeks < 20; weeks++) {
            Checks.due("save(0)", weeks, () -> x.save(0));
            Checks.due("save(1)", weeks, () -> x.save(1));
            x.weeks(1);
        }
        Checks.due("weeks", 20, () -> x.about(4));
        Checks.due("restore(0)", 19, () -> x.restore(0));
    }

    private static void saveOverwrites() {
        DanceFloors x = new DanceFloors();
        x.dancer();
        x.save(0);
        x.undo();
        x.weeks(2);
        Checks.due("save(0) over the old one", 2, () -> x.save(0));
        x.weeks(3);
        Checks.due("restore(0)", 2, () -> x.restore(0));
        Checks.due("dancers", 0, () -> x.about(3));
    }
}
