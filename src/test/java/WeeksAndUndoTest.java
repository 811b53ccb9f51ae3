/** Promises 21 and 23: weeks, undo. */
public final class WeeksAndUndoTest {
    private static final String ONE_CLASS = "Sf100009t085ddd";

    public static void main(String[] args) {
        weeksThrow();
        holdsWithEnough();
        usesInOrderOfClasses();
        levelsRiseBehindAllClasses();
        stepsByLevel();
        stepsOfTheHighestGoOn();
        raisesThoseWhoDidNotDance();
        seatsStayAboveLevels();
        undoTakesBackEachAction();
        undoRemembersFourteen();
        undoAfterUndoGoesOn();
        Checks.end();
    }

    private static void dancer(DanceFloors x, int d, int level, int steps, int left) {
        Checks.due("level of dancer " + d, level, () -> x.dancerOf(d, 0));
        Checks.due("steps of dancer " + d, steps, () -> x.dancerOf(d, 1));
        Checks.due("left of dancer " + d, left, () -> x.dancerOf(d, 2));
    }

    private static void weeksThrow() {
        DanceFloors x = Studios.small();
        Checks.dueArgument(x, "weeks(0)", () -> x.weeks(0));
        Checks.dueArgument(x, "weeks(10)", () -> x.weeks(10));
        Checks.dueArgument(x, "weeks(-1)", () -> x.weeks(-1));
        Checks.due("weeks(1)", 0, () -> x.weeks(1));
        Checks.due("weeks(9)", 0, () -> x.weeks(9));
        Checks.due("weeks", 10, () -> x.about(4));
        Checks.due("not held", 20, () -> x.about(10));
        Checks.due("held", 0, () -> x.about(9));
    }

    private static void holdsWithEnough() {
        DanceFloors x = Studios.loaded(ONE_CLASS + "p00p01c310000e000e010e020");
        Checks.due("weeks(1) of two who come", 2, () -> x.weeks(1));
        Checks.due("held", 1, () -> x.about(9));
        Checks.due("held in class 0", 1, () -> x.classOf(0, 8));
        Checks.due("uses in class 0", 2, () -> x.classOf(0, 9));
        dancer(x, 0, 1, 1, 9);
        dancer(x, 2, 1, 0, 0);
        x.tune(0, 3);
        Checks.due("weeks(1) of too few", 0, () -> x.weeks(1));
        Checks.due("not held", 1, () -> x.about(10));
        x.pass(2);
        Checks.due("weeks(9) of three", 27, () -> x.weeks(9));
        Checks.due("weeks(1) with one use left", 0, () -> x.weeks(1));
        dancer(x, 0, 1, 10, 0);
        dancer(x, 2, 1, 9, 1);
        x.tune(0, 1);
        Checks.due("weeks(3) of the last one", 1, () -> x.weeks(3));
        dancer(x, 2, 1, 10, 0);
        Checks.due("held", 11, () -> x.about(9));
        Checks.due("not held", 4, () -> x.about(10));
    }

    private static void usesInOrderOfClasses() {
        DanceFloors x = Studios.loaded(ONE_CLASS + "p00p01c310000c310001e000e010e001e011w4");
        x.tune(0, 1);
        x.pass(1);
        dancer(x, 0, 1, 8, 2);
        x.leave(0, 1);
        x.weeks(1);
        x.enter(0, 1);
        dancer(x, 0, 1, 9, 1);
        Checks.due("weeks(1): dancer 0 has a use for class 0 alone", 3, () -> x.weeks(1));
        Checks.due("uses in class 0", 12, () -> x.classOf(0, 9));
        Checks.due("uses in class 1", 10, () -> x.classOf(1, 9));
    }

    private static void levelsRiseBehindAllClasses() {
        DanceFloors x = Studios.loaded(ONE_CLASS + "p00p01p02c310000c310001c320002e000e001e002e010");
        x.tune(0, 1);
        x.tune(1, 2);
        x.weeks(1);
        // Of three classes in the first week all give steps of the level 1: 1, 1 and 2.
        dancer(x, 0, 2, 0, 7);
        dancer(x, 1, 1, 1, 9);
        x.weeks(1);
        dancer(x, 0, 3, 0, 4);
        dancer(x, 1, 2, 0, 8);
    }

    private static void stepsByLevel() {
        DanceFloors x = Studios.loaded(ONE_CLASS + "p00c320000e000");
        x.tune(0, 1);
        x.tune(1, 3);
        x.weeks(1);
        dancer(x, 0, 1, 2, 9);
        x.weeks(1);
        dancer(x, 0, 2, 0, 8);
        x.weeks(2);
        dancer(x, 0, 3, 0, 6);
        x.weeks(1);
        dancer(x, 0, 3, 1, 5);
    }

    private static void stepsOfTheHighestGoOn() {
        DanceFloors x = Studios.loaded(ONE_CLASS + "p00c310000e000");
        x.tune(0, 1);
        x.tune(1, 1);
        x.weeks(4);
        dancer(x, 0, 5, 0, 6);
        x.weeks(3);
        dancer(x, 0, 5, 3, 3);
        x.set(3, 5, 0, 0, 0, 1);
        x.enter(0, 1);
        x.weeks(1);
        dancer(x, 0, 5, 9, 1);
    }

    private static void raisesThoseWhoDidNotDance() {
        DanceFloors x = Studios.loaded(ONE_CLASS + "p00p01c310000e000e010w5");
        x.drop(0);
        x.tune(1, 5);
        dancer(x, 0, 1, 5, 5);
        Checks.due("weeks(2)", 0, () -> x.weeks(2));
        dancer(x, 0, 2, 0, 5);
        dancer(x, 1, 2, 0, 5);
    }

    private static void seatsStayAboveLevels() {
        DanceFloors x = Studios.loaded(ONE_CLASS + "p00p01c310000e000e010");
        x.tune(1, 1);
        x.weeks(4);
        Checks.due("seats", 2, () -> x.about(5));
        Checks.due("uses", 8, () -> x.about(7));
    }

    private static void undoTakesBackEachAction() {
        DanceFloors x = Studios.small();
        Checks.same("undo() of none", "throws.IllegalStateException", Checks.answerOf(x::undo));
        Checks.Call[] actions = {
            () -> x.floor(1, 0, 0, 1), () -> x.teacher(0, 1), () -> x.set(3, 1, 0, 0, 3, 3), () -> x.dancer(),
            () -> x.pass(0), () -> x.enter(0, 0), () -> x.enter(1, 0), () -> x.weeks(3), () -> x.leave(0, 0),
            () -> x.drop(0), () -> x.tune(1, 5), () -> x.enter(0, 0), () -> x.set(3, 1, 0, 0, 3, 3),
            () -> x.tune(0, 2)};
        String[] before = new String[actions.length];
        for (int i = 0; i < actions.length; i++) {
            before[i] = Studios.counts(x);
            actions[i].run();
        }
        for (int i = actions.length - 1; i >= 0; i--) {
            Checks.due("undo() of action " + i, i, x::undo);
            Checks.same("the counts before action " + i, before[i], Studios.counts(x));
        }
        Checks.same("undo() of none", "throws.IllegalStateException", Checks.answerOf(x::undo));
        Checks.due("setting(1) behind all undo()", 12, () -> x.setting(1));
    }

    private static void undoRemembersFourteen() {
        DanceFloors x = new DanceFloors();
        for (int i = 0; i < 20; i++) {
            x.weeks(1);
        }
        for (int left = 13; left >= 0; left--) {
            int due = left;
            Checks.due("undo()", due, x::undo);
            Checks.due("weeks behind undo()", 6 + due, () -> x.about(4));
        }
        Checks.dueState(x, "undo() of the fifteenth", x::undo);
        Checks.due("weeks", 6, () -> x.about(4));
    }

    private static void undoAfterUndoGoesOn() {
        DanceFloors x = new DanceFloors();
        for (int i = 0; i < 16; i++) {
            x.weeks(1);
        }
        x.undo();
        x.undo();
        x.dancer();
        x.append('S');
        x.save(0);
        Checks.due("undo()", 12, x::undo);
        Checks.due("dancers", 0, () -> x.about(3));
        Checks.due("weeks", 14, () -> x.about(4));
        Checks.due("the text stays", DanceFloors.NONE, x::errorPosition);
        Checks.due("restore(0)", 14, () -> x.restore(0));
        Checks.due("dancers", 1, () -> x.about(3));
    }
}
