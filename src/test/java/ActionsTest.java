/** Promises 13 to 23: floor, teacher, set, drop, dancer, pass, enter, leave, weeks, tune, undo. */
public final class ActionsTest {
    public static void main(String[] args) {
        addsFloors();
        addsTeachers();
        setsClasses();
        refusesClassesInOrder();
        setThrowsInOrder();
        dropsClasses();
        addsDancers();
        givesPasses();
        takesSeats();
        refusesSeatsInOrder();
        leavesSeats();
        tunes();
        Checks.end();
    }

    private static void addsFloors() {
        DanceFloors x = new DanceFloors();
        Checks.due("floor(lowest)", 0, () -> x.floor(1, 0, 0, 1));
        Checks.due("floor(highest)", 1, () -> x.floor(9, 4, 60, 30));
        int[][] wrong = {{0, 0, 0, 1}, {10, 0, 0, 1}, {1, -1, 0, 1}, {1, 5, 0, 1},
            {1, 0, -1, 1}, {1, 0, 61, 1}, {1, 0, 0, 0}, {1, 0, 0, 31}};
        for (int[] w : wrong) {
            Checks.dueArgument(x, "floor" + java.util.Arrays.toString(w), () -> x.floor(w[0], w[1], w[2], w[3]));
        }
        x.floor(5, 2, 24, 8);
        Checks.due("the last floor", 3, () -> x.floor(6, 3, 25, 9));
        long[] due = {6, 3, 25, 9, 0, 36};
        for (int what = 0; what < due.length; what++) {
            int number = what;
            Checks.due("floorOf(3, " + what + ")", due[what], () -> x.floorOf(3, number));
        }
        Checks.dueState(x, "a fifth floor", () -> x.floor(1, 0, 0, 1));
        Checks.dueArgument(x, "a wrong fifth floor", () -> x.floor(0, 0, 0, 1));
        Checks.due("undo()", 3, x::undo);
        Checks.due("floors", 3, () -> x.about(0));
    }

    private static void addsTeachers() {
        DanceFloors x = new DanceFloors();
        Checks.due("teacher(0, 1)", 0, () -> x.teacher(0, 1));
        Checks.due("teacher(15, 5)", 1, () -> x.teacher(15, 5));
        int[][] wrong = {{-1, 1}, {16, 1}, {0, 0}, {0, 6}};
        for (int[] w : wrong) {
            Checks.dueArgument(x, "teacher" + java.util.Arrays.toString(w), () -> x.teacher(w[0], w[1]));
        }
        x.teacher(1, 1);
        x.teacher(2, 2);
        Checks.due("the last teacher", 4, () -> x.teacher(9, 3));
        Checks.due("teacherOf(4, 0)", 9, () -> x.teacherOf(4, 0));
        Checks.due("teacherOf(4, 1)", 3, () -> x.teacherOf(4, 1));
        Checks.dueState(x, "a sixth teacher", () -> x.teacher(1, 1));
        Checks.dueArgument(x, "a wrong sixth teacher", () -> x.teacher(16, 1));
        Checks.due("undo()", 4, x::undo);
    }

    private static void setsClasses() {
        DanceFloors x = Studios.small();
        Checks.due("set() of a class", 0, () -> x.set(2, 5, 0, 0, 3, 4));
        long[] due = {2, 5, 0, 0, 3, 4, 20, 0, 0, 0};
        for (int what = 0; what < due.length; what++) {
            int number = what;
            Checks.due("classOf(2, " + what + ")", due[what], () -> x.classOf(2, number));
        }
        Checks.due("refused", 0, () -> x.about(11));
        Checks.due("set() refused", 1, () -> x.set(2, 5, 0, 0, 3, 4));
        Checks.due("classes", 3, () -> x.about(2));
        Checks.due("refused", 1, () -> x.about(11));
    }

    /** What is set on a floor of this spring, these mirrors and this barre, by a teacher of all. */
    private static void setOn(int spring, int mirrors, int barre, int style, int level, int due) {
        DanceFloors x = new DanceFloors();
        x.floor(spring, mirrors, barre, 9);
        x.teacher(15, 5);
        String name = "set(" + style + ", " + level + ") on " + spring + ", " + mirrors + ", " + barre;
        Checks.due("why before " + name, due, () -> x.why(style, level, 0, 0, 0, 0));
        Checks.due(name, due, () -> x.set(style, level, 0, 0, 0, 0));
        Checks.due("refused by " + name, due == 0 ? 0 : 1, () -> x.about(11));
        Checks.due("classes behind " + name, due == 0 ? 1 : 0, () -> x.about(2));
    }

    private static void refusesClassesInOrder() {
        DanceFloors x = Studios.small();
        Checks.due("floor in use before teacher in use", 1, () -> x.set(0, 5, 0, 0, 0, 0));
        Checks.due("teacher in use before not taught", 2, () -> x.set(0, 5, 0, 1, 1, 2));
        Checks.due("not taught before spring", 3, () -> x.set(0, 1, 1, 1, 2, 2));
        Checks.due("not so high a level", 3, () -> x.set(3, 4, 1, 1, 2, 2));
        Checks.due("the highest level", 0, () -> x.set(3, 3, 1, 1, 2, 2));
        Checks.due("refused", 4, () -> x.about(11));
        setOn(3, 0, 0, 0, 1, 4);
        setOn(4, 0, 5, 0, 1, 5);
        setOn(4, 0, 6, 0, 1, 0);
        setOn(9, 0, 7, 0, 2, 5);
        setOn(9, 0, 8, 0, 2, 6);
        setOn(9, 1, 8, 0, 2, 0);
        setOn(9, 1, 10, 0, 3, 0);
        setOn(9, 1, 12, 0, 4, 6);
        setOn(9, 2, 13, 0, 5, 5);
        setOn(9, 2, 14, 0, 5, 0);
        setOn(6, 4, 60, 1, 1, 4);
        setOn(5, 0, 0, 1, 5, 6);
        setOn(5, 1, 0, 1, 5, 0);
        setOn(1, 1, 60, 1, 1, 0);
        setOn(3, 4, 60, 2, 1, 4);
        setOn(4, 0, 0, 2, 1, 0);
        setOn(7, 0, 0, 2, 5, 4);
        setOn(8, 0, 0, 2, 5, 0);
        setOn(1, 0, 0, 3, 5, 0);
        setOn(9, 4, 60, 3, 1, 0);
    }

    private static void setThrowsInOrder() {
        DanceFloors x = Studios.small();
        for (int hour = 0; hour < 6; hour++) {
            x.set(3, 1, 0, 0, 4, hour);
        }
        x.set(3, 1, 0, 0, 5, 0);
        Checks.due("classes", 9, () -> x.about(2));
        Checks.due("the last class", 0, () -> x.set(3, 1, 0, 0, 5, 1));
        Checks.dueState(x, "an eleventh class", () -> x.set(3, 1, 0, 0, 5, 2));
        Checks.dueState(x, "an eleventh class that would be refused", () -> x.set(3, 1, 0, 0, 5, 1));
        Checks.dueIndex(x, "floor -1, all wrong", () -> x.set(4, 0, -1, 0, 6, 6));
        Checks.dueIndex(x, "floor 2", () -> x.set(3, 1, 2, 0, 5, 2));
        Checks.dueIndex(x, "teacher -1", () -> x.set(3, 1, 0, -1, 5, 2));
        Checks.dueIndex(x, "teacher 2, all wrong", () -> x.set(-1, 6, 0, 2, -1, -1));
        int[][] wrong = {{-1, 1, 5, 2}, {4, 1, 5, 2}, {3, 0, 5, 2}, {3, 6, 5, 2},
            {3, 1, -1, 2}, {3, 1, 6, 2}, {3, 1, 5, -1}, {3, 1, 5, 6}};
        for (int[] w : wrong) {
            Checks.dueArgument(x, "set" + java.util.Arrays.toString(w), () -> x.set(w[0], w[1], 0, 0, w[2], w[3]));
        }
        Checks.due("undo() of the last class", 7, x::undo);
        Checks.due("classes behind undo()", 9, () -> x.about(2));
    }

    private static void dropsClasses() {
        DanceFloors x = Studios.small();
        x.set(2, 1, 0, 0, 3, 3);
        x.enter(0, 0);
        x.enter(1, 0);
        x.enter(2, 1);
        x.weeks(1);
        Checks.dueIndex(x, "drop(3)", () -> x.drop(3));
        Checks.dueIndex(x, "drop(-1)", () -> x.drop(-1));
        Checks.due("drop(0)", 2, () -> x.drop(0));
        Checks.due("seats", 1, () -> x.about(5));
        Checks.due("level of the class that is 0 now", 2, () -> x.classOf(0, 1));
        Checks.due("seats in the class that is 0 now", 1, () -> x.classOf(0, 7));
        Checks.due("style of the class that is 1 now", 2, () -> x.classOf(1, 0));
        Checks.due("seats of dancer 0", 0, () -> x.dancerOf(0, 5));
        Checks.dueIndex(x, "classOf(2, 0)", () -> x.classOf(2, 0));
        Checks.due("the hour is free", 0, () -> x.set(3, 1, 0, 0, 0, 0));
        Checks.due("a new class has no seats", 0, () -> x.classOf(2, 7));
        Checks.due("a new class has no uses", 0, () -> x.classOf(2, 9));
        Checks.due("a new class has no weeks", 0, () -> x.classOf(2, 8));
        Checks.due("drop(2)", 0, () -> x.drop(2));
        Checks.due("drop(1)", 0, () -> x.drop(1));
        dropsTheOnlyClass();
    }

    private static void dropsTheOnlyClass() {
        DanceFloors x = Studios.loaded("Sf100009t085ddp00p01c310000e000e010w3");
        Checks.due("drop(0)", 2, () -> x.drop(0));
        Checks.dueIndex(x, "drop(0) of none", () -> x.drop(0));
        x.set(3, 1, 0, 0, 0, 0);
        Checks.due("a new class has no seats", 0, () -> x.classOf(0, 7));
        Checks.due("a new class has no weeks", 0, () -> x.classOf(0, 8));
        Checks.due("a new class has no uses", 0, () -> x.classOf(0, 9));
    }

    private static void addsDancers() {
        DanceFloors x = new DanceFloors();
        for (int d = 0; d < 12; d++) {
            Checks.due("dancer()", d, x::dancer);
        }
        long[] due = {1, 0, 0, 0, 0, 0};
        for (int what = 0; what < due.length; what++) {
            int number = what;
            Checks.due("dancerOf(11, " + what + ")", due[what], () -> x.dancerOf(11, number));
        }
        Checks.dueState(x, "a thirteenth dancer", x::dancer);
        Checks.due("undo()", 11, x::undo);
        Checks.due("dancers", 11, () -> x.about(3));
    }

    private static void givesPasses() {
        DanceFloors x = Studios.loaded("Sf100009t085dddc310000e000e010p01");
        for (int left = 10; left <= 90; left += 10) {
            int due = left;
            Checks.due("pass(0)", due, () -> x.pass(0));
        }
        Checks.dueState(x, "pass(0) with 90 left", () -> x.pass(0));
        x.weeks(1);
        Checks.due("pass(0) with 89 left", 99, () -> x.pass(0));
        Checks.dueState(x, "pass(0) with 99 left", () -> x.pass(0));
        Checks.due("passes of dancer 0", 10, () -> x.dancerOf(0, 4));
        Checks.due("passes", 11, () -> x.about(6));
        Checks.dueIndex(x, "pass(3)", () -> x.pass(3));
        Checks.dueIndex(x, "pass(-1)", () -> x.pass(-1));
        Checks.due("undo() of 11 actions", 10, x::undo);
        Checks.due("left behind undo()", 89, () -> x.dancerOf(0, 2));
    }

    private static void takesSeats() {
        DanceFloors x = Studios.small();
        Checks.due("enter(0, 0)", 0, () -> x.enter(0, 0));
        Checks.due("enter(2, 1) one level above", 0, () -> x.enter(2, 1));
        Checks.due("seats in class 0", 1, () -> x.classOf(0, 7));
        Checks.due("seats of dancer 2", 1, () -> x.dancerOf(2, 5));
        Checks.due("refused", 0, () -> x.about(11));
        Checks.dueIndex(x, "enter(3, 0)", () -> x.enter(3, 0));
        Checks.dueIndex(x, "enter(-1, 0)", () -> x.enter(-1, 0));
        Checks.dueIndex(x, "enter(0, 2)", () -> x.enter(0, 2));
        Checks.dueIndex(x, "enter(0, -1)", () -> x.enter(0, -1));
        Checks.due("undo()", 1, x::undo);
        Checks.due("seats behind undo()", 1, () -> x.about(5));
    }

    private static void refusesSeatsInOrder() {
        // Floor 0 has 1 place, floor 1 has 2. Classes 0 and 1 are at one hour, class 2 is on floor 0 at the next one,
        // class 3 is of level 3 at the hour of class 0, class 4 is on floor 0 at the last one.
        DanceFloors x = Studios.loaded("Sf100001f100002f100009t085t085t085dddc310000c311100c310001c332200c310105");
        x.enter(0, 0);
        Checks.due("has the seat in a full class", 1, () -> x.enter(0, 0));
        Checks.due("level before the hour", 2, () -> x.enter(0, 3));
        Checks.due("the hour before a full class", 0, () -> x.enter(1, 1));
        Checks.due("the hour before a full class", 3, () -> x.enter(1, 0));
        Checks.due("a full class", 4, () -> x.enter(2, 0));
        Checks.due("a class not yet full", 0, () -> x.enter(2, 1));
        Checks.due("seats", 3, () -> x.about(5));
        Checks.due("refused", 4, () -> x.about(11));
        Checks.due("another hour of the same day", 0, () -> x.enter(0, 4));
        Checks.due("leave(0, 0)", 0, () -> x.leave(0, 0));
        Checks.due("a seat that is free again, but the hour is not", 3, () -> x.enter(2, 0));
    }

    private static void leavesSeats() {
        DanceFloors x = Studios.small();
        x.enter(0, 0);
        x.enter(1, 0);
        x.enter(0, 1);
        Checks.due("leave(0, 0)", 1, () -> x.leave(0, 0));
        Checks.due("seats of dancer 0", 1, () -> x.dancerOf(0, 5));
        Checks.dueState(x, "leave(0, 0) without a seat", () -> x.leave(0, 0));
        Checks.dueIndex(x, "leave(3, 0)", () -> x.leave(3, 0));
        Checks.dueIndex(x, "leave(-1, 0)", () -> x.leave(-1, 0));
        Checks.dueIndex(x, "leave(0, 2)", () -> x.leave(0, 2));
        Checks.dueIndex(x, "leave(0, -1)", () -> x.leave(0, -1));
        Checks.due("leave(1, 0)", 0, () -> x.leave(1, 0));
        Checks.due("undo()", 4, x::undo);
        Checks.due("seats in class 0 behind undo()", 1, () -> x.classOf(0, 7));
    }

    private static void tunes() {
        DanceFloors x = new DanceFloors();
        Checks.due("tune(0, 9)", 2, () -> x.tune(0, 9));
        Checks.due("tune(0, 1)", 9, () -> x.tune(0, 1));
        Checks.due("tune(1, 50)", 12, () -> x.tune(1, 50));
        Checks.due("tune(1, 1)", 50, () -> x.tune(1, 1));
        int[][] wrong = {{-1, 1}, {2, 1}, {0, 0}, {0, 10}, {1, 0}, {1, 51}};
        for (int[] w : wrong) {
            Checks.dueArgument(x, "tune" + java.util.Arrays.toString(w), () -> x.tune(w[0], w[1]));
        }
        Checks.due("undo()", 3, x::undo);
        Checks.due("setting(1) behind undo()", 50, () -> x.setting(1));
    }
}
