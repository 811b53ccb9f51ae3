/** Promises 6 to 12: each number of the empty, the smallest and the fullest studio, and of its first and last parts. */
public final class BoundsOfAnswersTest {
    public static void main(String[] args) {
        tellsAboutTheEmpty();
        tellsAboutTheFull();
        tellsOfEachFloorTeacherClassAndDancer();
        partsThatAreNotThereYet();
        hoursAndDaysAreCountedOnce();
        passesAndUsesGoOn();
        countsStayBehindDrops();
        Checks.end();
    }

    private static void about(String name, DanceFloors x, long... due) {
        for (int what = 0; what < 12; what++) {
            int number = what;
            Checks.due("about(" + what + ") " + name, due[what], () -> x.about(number));
        }
    }

    private static void tellsAboutTheEmpty() {
        about("of a new object", new DanceFloors(), 0, 0, 0, 0, 0, 0, 0, 0, 0, 0, 0, 0);
        about("of an empty text", Studios.loaded("S"), 0, 0, 0, 0, 0, 0, 0, 0, 0, 0, 0, 0);
        about("of one floor", Studios.loaded("Sf100001"), 1, 0, 0, 0, 0, 0, 0, 0, 0, 0, 0, 0);
        about("of one teacher", Studios.loaded("St001"), 0, 1, 0, 0, 0, 0, 0, 0, 0, 0, 0, 0);
        about("of one dancer", Studios.loaded("Sd"), 0, 0, 0, 1, 0, 0, 0, 0, 0, 0, 0, 0);
        about("of one pass", Studios.loaded("Sdp00"), 0, 0, 0, 1, 0, 0, 1, 0, 10, 0, 0, 0);
        about("of one week", Studios.loaded("Sw1"), 0, 0, 0, 0, 1, 0, 0, 0, 0, 0, 0, 0);
        about("of one class", Studios.loaded("Sf100001t081c310000w1"), 1, 1, 1, 0, 1, 0, 0, 0, 0, 0, 1, 0);
    }

    private static void tellsAboutTheFull() {
        DanceFloors x = Studios.full();
        about("of the full", x, 4, 5, 10, 12, 1, 2, 11, 2, 108, 1, 9, 0);
        x.enter(0, 0);
        about("of the full, refused", x, 4, 5, 10, 12, 1, 2, 11, 2, 108, 1, 9, 1);
        x.weeks(9);
        about("of the full, behind 9 weeks", x, 4, 5, 10, 12, 10, 2, 11, 20, 90, 10, 90, 1);
        x.weeks(1);
        about("of the full, with one who comes", x, 4, 5, 10, 12, 11, 2, 11, 20, 90, 10, 100, 1);
    }

    private static void tellsOfEachFloorTeacherClassAndDancer() {
        DanceFloors x = Studios.full();
        int[][] floors = {{9, 4, 60, 30, 10, 26}, {5, 1, 20, 2, 0, 36}, {3, 0, 0, 1, 0, 36}, {8, 2, 14, 10, 0, 36}};
        int[][] teachers = {{15, 5, 10, 2}, {15, 5, 0, 0}, {8, 1, 0, 0}, {0, 5, 0, 0}, {15, 2, 0, 0}};
        int[][] dancers = {{1, 1, 99, 1, 10, 1}, {1, 1, 9, 1, 1, 1}};
        for (int i = 0; i < 4; i++) {
            int f = i;
            row("floorOf", f, floors[f], what -> x.floorOf(f, what));
        }
        for (int i = 0; i < 5; i++) {
            int t = i;
            row("teacherOf", t, teachers[t], what -> x.teacherOf(t, what));
        }
        for (int i = 0; i < 10; i++) {
            int k = i;
            int[] due = {3, 1, 0, 0, k / 6, k % 6, 30, k == 0 ? 2 : 0, k == 0 ? 1 : 0, k == 0 ? 2 : 0};
            row("classOf", k, due, what -> x.classOf(k, what));
        }
        for (int i = 0; i < 12; i++) {
            int d = i;
            row("dancerOf", d, d < 2 ? dancers[d] : new int[] {1, 0, 0, 0, 0, 0}, what -> x.dancerOf(d, what));
        }
    }

    private static void row(String name, int i, int[] due, java.util.function.IntUnaryOperator call) {
        for (int what = 0; what < due.length; what++) {
            int number = what;
            Checks.due(name + "(" + i + ", " + what + ")", due[what], () -> call.applyAsInt(number));
        }
    }

    private static void partsThatAreNotThereYet() {
        DanceFloors x = new DanceFloors();
        String none = "throws.IndexOutOfBoundsException";
        Checks.same("floorOf(0, 0) of none", none, Checks.answerOf(() -> x.floorOf(0, 0)));
        Checks.same("teacherOf(0, 0) of none", none, Checks.answerOf(() -> x.teacherOf(0, 0)));
        Checks.same("classOf(0, 0) of none", none, Checks.answerOf(() -> x.classOf(0, 0)));
        Checks.same("dancerOf(0, 0) of none", none, Checks.answerOf(() -> x.dancerOf(0, 0)));
        Checks.same("drop(0) of none", none, Checks.answerOf(() -> x.drop(0)));
        Checks.same("pass(0) of none", none, Checks.answerOf(() -> x.pass(0)));
        Checks.same("emptyIn(0) of none", none, Checks.answerOf(() -> x.emptyIn(0)));
        Checks.same("bestFloor() by none", none, Checks.answerOf(() -> x.bestFloor(0, 1, 0, 0, 0)));
        Checks.same("why() on none", none, Checks.answerOf(() -> x.why(0, 1, 0, 0, 0, 0)));
        x.floor(1, 0, 0, 1);
        Checks.same("why() by none", none, Checks.answerOf(() -> x.why(0, 1, 0, 0, 0, 0)));
        Checks.same("set() by none", none, Checks.answerOf(() -> x.set(0, 1, 0, 0, 0, 0)));
        x.dancer();
        Checks.same("enter() in none", none, Checks.answerOf(() -> x.enter(0, 0)));
        Checks.same("leave() of none", none, Checks.answerOf(() -> x.leave(0, 0)));
        Checks.same("whySeat() in none", none, Checks.answerOf(() -> x.whySeat(0, 0)));
        Checks.same("floorOf(1, 0) of one", none, Checks.answerOf(() -> x.floorOf(1, 0)));
        Checks.same("dancerOf(1, 0) of one", none, Checks.answerOf(() -> x.dancerOf(1, 0)));
    }

    private static void hoursAndDaysAreCountedOnce() {
        DanceFloors x = Studios.loaded("Sf100001f100001t081t081c310000c310001c311100c311151");
        Checks.due("classes of floor 0", 2, () -> x.floorOf(0, 4));
        Checks.due("free hours of floor 0", 34, () -> x.floorOf(0, 5));
        Checks.due("classes of teacher 0", 2, () -> x.teacherOf(0, 2));
        Checks.due("days of teacher 0", 1, () -> x.teacherOf(0, 3));
        Checks.due("days of teacher 1", 2, () -> x.teacherOf(1, 3));
        x.drop(3);
        Checks.due("days of teacher 1 behind drop(3)", 1, () -> x.teacherOf(1, 3));
        Checks.due("free hours of floor 1 behind drop(3)", 35, () -> x.floorOf(1, 5));
        x.drop(2);
        Checks.due("days of teacher 1 behind drop(2)", 0, () -> x.teacherOf(1, 3));
        Checks.due("free hours of floor 1 behind drop(2)", 36, () -> x.floorOf(1, 5));
    }

    /** A dancer with a seat in each of ten classes empties a pass a week. */
    private static void passesAndUsesGoOn() {
        DanceFloors x = Studios.full();
        x.tune(0, 1);
        x.leave(1, 0);
        for (int k = 1; k < 10; k++) {
            x.enter(0, k);
        }
        for (int week = 1; week <= 30; week++) {
            Checks.due("weeks(1) of ten classes", 10, () -> x.weeks(1));
            Checks.due("pass(0)", 99, () -> x.pass(0));
            int passes = 10 + week;
            Checks.due("passes of dancer 0", passes, () -> x.dancerOf(0, 4));
            Checks.due("uses of dancer 0", 10 * passes - 99, () -> x.dancerOf(0, 3));
            Checks.due("uses by dancers", 2 + 10 * (passes - 10), () -> x.uses(0));
            Checks.due("uses in classes", 2 + 10 * (passes - 10), () -> x.uses(1));
        }
    }

    private static void countsStayBehindDrops() {
        DanceFloors x = Studios.full();
        x.weeks(3);
        for (int left = 9; left >= 0; left--) {
            x.drop(left);
            Checks.due("classes", left, () -> x.about(2));
            Checks.due("held", 4, () -> x.about(9));
            Checks.due("not held", 36, () -> x.about(10));
            Checks.due("uses(0)", 8, () -> x.uses(0));
            Checks.due("uses(1)", 8, () -> x.uses(1));
            Checks.due("uses of dancer 0", 4, () -> x.dancerOf(0, 3));
            Checks.due("seats", left > 0 ? 2 : 0, () -> x.about(5));
        }
    }
}
