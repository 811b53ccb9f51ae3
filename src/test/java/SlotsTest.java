/** Promises 31 and 32: save, restore. */
public final class SlotsTest {
    public static void main(String[] args) {
        savesAndRestores();
        slotsAreApart();
        slotsThrow();
        Checks.end();
    }

    private static void savesAndRestores() {
        DanceFloors x = Studios.small();
        x.enter(0, 0);
        x.enter(1, 0);
        x.weeks(3);
        x.enter(1, 0);
        x.tune(1, 5);
        String saved = Studios.look(x);
        Checks.due("save(1)", 3, () -> x.save(1));
        Checks.same("what there is behind save(1)", saved, Studios.look(x));
        x.weeks(2);
        x.drop(0);
        Checks.due("undo(): save is no action", 6, x::undo);
        Checks.due("restore(1)", 3, () -> x.restore(1));
        Checks.same("what there is behind restore(1)", saved, Studios.look(x));
        Checks.dueState(x, "undo() behind restore(1)", x::undo);
        x.dancer();
        x.floor(1, 0, 0, 1);
        Checks.due("restore(1) again", 3, () -> x.restore(1));
        Checks.same("what there is behind restore(1) again", saved, Studios.look(x));
        x.dancer();
        Checks.due("undo() behind restore(1) and an action", 0, x::undo);
    }

    private static void slotsAreApart() {
        DanceFloors x = new DanceFloors();
        x.weeks(4);
        x.save(0);
        Checks.dueState(x, "restore(1) with slot 0 in use", () -> x.restore(1));
        x.weeks(3);
        x.save(1);
        Checks.due("restore(0)", 4, () -> x.restore(0));
        Checks.due("weeks", 4, () -> x.about(4));
        Checks.due("restore(1)", 7, () -> x.restore(1));
        x.weeks(1);
        Checks.due("save(0) over the old one", 8, () -> x.save(0));
        Checks.due("restore(1)", 7, () -> x.restore(1));
        Studios.type(x, "Sd");
        Checks.due("restore(0)", 8, () -> x.restore(0));
        Checks.due("the text stays", 2, x::clearText);
    }

    private static void slotsThrow() {
        DanceFloors x = Studios.small();
        x.weeks(1);
        Checks.dueIndex(x, "save(-1)", () -> x.save(-1));
        Checks.dueIndex(x, "save(2)", () -> x.save(2));
        Checks.dueIndex(x, "restore(-1)", () -> x.restore(-1));
        Checks.dueIndex(x, "restore(2)", () -> x.restore(2));
        Checks.dueState(x, "restore(0) of nothing", () -> x.restore(0));
        Checks.due("undo(): nothing was forgotten", 0, x::undo);
    }
}
