/** Promises 24 to 28: why, whySeat, bestFloor, emptyIn, held. */
public final class LookAheadTest {
    public static void main(String[] args) {
        tellsWhyNoClass();
        tellsWhyNoSeat();
        findsTheBestFloor();
        tellsWhenPassesAreEmpty();
        tellsOneHundredWeeks();
        tellsWhatIsHeld();
        Checks.end();
    }

    private static void tellsWhyNoClass() {
        DanceFloors x = Studios.small();
        String before = Studios.look(x);
        Checks.due("why: can be", 0, () -> x.why(3, 1, 0, 0, 0, 1));
        Checks.due("why: floor", 1, () -> x.why(0, 5, 0, 0, 0, 0));
        Checks.due("why: teacher", 2, () -> x.why(0, 5, 0, 1, 1, 2));
        Checks.due("why: not taught", 3, () -> x.why(0, 1, 1, 1, 2, 2));
        Checks.due("why: spring", 4, () -> x.why(0, 5, 1, 0, 2, 2));
        Checks.due("why: mirrors", 0, () -> x.why(0, 5, 0, 0, 2, 2));
        Checks.same("why changes nothing", before, Studios.look(x));
        Checks.dueState(x, "why is no action", x::undo);
        Checks.dueIndex(x, "why: floor 2", () -> x.why(9, 9, 2, 0, 9, 9));
        Checks.dueIndex(x, "why: floor -1", () -> x.why(3, 1, -1, 0, 0, 1));
        Checks.dueIndex(x, "why: teacher 2", () -> x.why(9, 9, 0, 2, 9, 9));
        Checks.dueIndex(x, "why: teacher -1", () -> x.why(3, 1, 0, -1, 0, 1));
        tellsWhyOfWrongArguments();
        tellsWhyWithTenClasses();
    }

    private static void tellsWhyOfWrongArguments() {
        int[][] wrong = {{-1, 1, 5, 2}, {4, 1, 5, 2}, {3, 0, 5, 2}, {3, 6, 5, 2},
            {3, 1, -1, 2}, {3, 1, 6, 2}, {3, 1, 5, -1}, {3, 1, 5, 6}};
        for (int[] w : wrong) {
            DanceFloors x = Studios.small();
            Checks.dueArgument(x, "why" + java.util.Arrays.toString(w), () -> x.why(w[0], w[1], 0, 0, w[2], w[3]));
            Checks.dueArgument(x, "bestFloor" + java.util.Arrays.toString(w),
                    () -> x.bestFloor(w[0], w[1], 0, w[2], w[3]));
        }
    }

    private static void tellsWhyWithTenClasses() {
        DanceFloors x = Studios.small();
        for (int hour = 0; hour < 6; hour++) {
            x.set(3, 1, 0, 0, 4, hour);
        }
        x.set(3, 1, 0, 0, 5, 0);
        x.set(3, 1, 0, 0, 5, 1);
        Checks.due("classes", 10, () -> x.about(2));
        Checks.due("why with 10 classes", 0, () -> x.why(3, 1, 0, 0, 5, 2));
        Checks.due("bestFloor with 10 classes", 0, () -> x.bestFloor(3, 1, 0, 5, 2));
    }

    private static void tellsWhyNoSeat() {
        DanceFloors x = Studios.small();
        x.set(3, 3, 0, 0, 1, 2);
        x.set(3, 1, 0, 0, 2, 2);
        x.set(3, 1, 1, 1, 2, 2);
        x.enter(0, 0);
        x.enter(0, 3);
        x.enter(1, 4);
        String before = Studios.look(x);
        Checks.due("whySeat: can be", 0, () -> x.whySeat(1, 1));
        Checks.due("whySeat: has it", 1, () -> x.whySeat(0, 0));
        Checks.due("whySeat: level", 2, () -> x.whySeat(0, 2));
        Checks.due("whySeat: hour", 3, () -> x.whySeat(0, 4));
        x.enter(2, 4);
        x.dancer();
        Checks.due("whySeat: full", 4, () -> x.whySeat(3, 4));
        Checks.due("whySeat: hour before full", 3, () -> x.whySeat(0, 4));
        x.undo();
        x.undo();
        Checks.same("whySeat changes nothing", before, Studios.look(x));
        Checks.dueIndex(x, "whySeat(3, 0)", () -> x.whySeat(3, 0));
        Checks.dueIndex(x, "whySeat(-1, 0)", () -> x.whySeat(-1, 0));
        Checks.dueIndex(x, "whySeat(0, 5)", () -> x.whySeat(0, 5));
        Checks.dueIndex(x, "whySeat(0, -1)", () -> x.whySeat(0, -1));
    }

    private static void findsTheBestFloor() {
        DanceFloors x = new DanceFloors();
        x.teacher(15, 4);
        Checks.due("no floors", -1, () -> x.bestFloor(3, 1, 0, 0, 0));
        x.floor(4, 4, 20, 25);
        x.floor(9, 4, 30, 20);
        x.floor(9, 4, 60, 15);
        x.floor(1, 0, 0, 25);
        Checks.due("ballet is bound by the barre; the lowest of several", 1, () -> x.bestFloor(0, 1, 0, 0, 0));
        Checks.due("rounds: the lowest of several", 0, () -> x.bestFloor(3, 1, 0, 0, 0));
        Checks.due("leaps: spring", 1, () -> x.bestFloor(2, 2, 0, 0, 0));
        Checks.due("tap: spring and mirrors", 0, () -> x.bestFloor(1, 2, 0, 0, 0));
        Checks.due("too high a level", -1, () -> x.bestFloor(3, 5, 0, 0, 0));
        x.teacher(8, 5);
        x.set(3, 1, 0, 1, 0, 0);
        Checks.due("floor 0 is in use", 3, () -> x.bestFloor(3, 1, 0, 0, 0));
        Checks.due("teacher 1 is in use", -1, () -> x.bestFloor(3, 1, 1, 0, 0));
        Checks.due("at another hour", 0, () -> x.bestFloor(3, 1, 1, 0, 1));
        DanceFloors y = Studios.loaded("Sf100001t085");
        Checks.due("a floor of one place", 0, () -> y.bestFloor(3, 1, 0, 0, 0));
        Checks.dueIndex(x, "bestFloor: teacher 2", () -> x.bestFloor(9, 9, 2, 9, 9));
        Checks.dueIndex(x, "bestFloor: teacher -1", () -> x.bestFloor(3, 1, -1, 0, 0));
    }

    private static void tellsWhenPassesAreEmpty() {
        DanceFloors x = Studios.loaded("Sf100009t085ddddp00p01p02c310000c310001e000e010e001e011e020");
        String before = Studios.look(x);
        Checks.due("emptyIn(0)", 5, () -> x.emptyIn(0));
        Checks.due("emptyIn(1)", 5, () -> x.emptyIn(1));
        Checks.due("emptyIn(2): too few come behind 5 weeks", -1, () -> x.emptyIn(2));
        Checks.due("emptyIn(3): none is left now", 0, () -> x.emptyIn(3));
        x.tune(0, 1);
        Checks.due("emptyIn(2) alone", 10, () -> x.emptyIn(2));
        x.leave(2, 0);
        Checks.due("emptyIn(2) without a seat", -1, () -> x.emptyIn(2));
        x.undo();
        x.undo();
        Checks.same("emptyIn changes nothing", before, Studios.look(x));
        Checks.dueIndex(x, "emptyIn(4)", () -> x.emptyIn(4));
        Checks.dueIndex(x, "emptyIn(-1)", () -> x.emptyIn(-1));
    }

    /** At most 99 uses are left, so one class a week empties them within 100 weeks. */
    private static void tellsOneHundredWeeks() {
        DanceFloors x = Studios.loaded("Sf100009t085ddc310000e000e010p01");
        for (int i = 0; i < 9; i++) {
            x.pass(0);
        }
        x.weeks(1);
        x.pass(0);
        x.tune(0, 1);
        Checks.due("left", 99, () -> x.dancerOf(0, 2));
        Checks.due("emptyIn(0)", 99, () -> x.emptyIn(0));
        Checks.due("emptyIn(1)", 9, () -> x.emptyIn(1));
    }

    private static void tellsWhatIsHeld() {
        DanceFloors x = Studios.loaded("Sf100009t085dddp00p01c310000c310001c310002e000e010e002e012e021");
        String before = Studios.look(x);
        Checks.due("held()", 5, x::held);
        Checks.same("held changes nothing", before, Studios.look(x));
        Checks.dueState(x, "held is no action", x::undo);
        x.enter(0, 1);
        x.enter(1, 1);
        Checks.due("held() of all", 7, x::held);
        x.weeks(3);
        Checks.due("held() with one use left", 1, x::held);
        x.tune(0, 3);
        Checks.due("held() with too few", 0, x::held);
    }
}
