/** Promises 6 to 12: about, floorOf, teacherOf, classOf, dancerOf, uses, setting. */
public final class NumbersTest {
    public static void main(String[] args) {
        tellsAboutAll();
        tellsOfFloors();
        tellsOfTeachers();
        tellsOfClasses();
        tellsHowManyAClassTakes();
        tellsOfDancers();
        countsUsesInTwoWays();
        tellsSettings();
        Checks.end();
    }

    /** A studio in which two weeks were danced, a class dropped, and something refused. */
    private static DanceFloors danced() {
        DanceFloors x = Studios.small();
        x.enter(0, 0);
        x.enter(1, 0);
        x.enter(0, 1);
        x.enter(0, 1);
        x.set(3, 1, 0, 0, 0, 0);
        x.weeks(2);
        return x;
    }

    private static void tellsAboutAll() {
        DanceFloors x = danced();
        long[] due = {2, 2, 2, 3, 2, 3, 3, 4, 26, 2, 2, 2};
        for (int what = 0; what < due.length; what++) {
            int number = what;
            Checks.due("about(" + what + ")", due[what], () -> x.about(number));
        }
        x.drop(0);
        long[] behindDrop = {2, 2, 1, 3, 2, 1, 3, 4, 26, 2, 2, 2};
        for (int what = 0; what < due.length; what++) {
            int number = what;
            Checks.due("about(" + what + ") behind drop(0)", behindDrop[what], () -> x.about(number));
        }
        Checks.dueArgument(x, "about(-1)", () -> x.about(-1));
        Checks.dueArgument(x, "about(12)", () -> x.about(12));
        Checks.dueArgument(x, "about(lowest)", () -> x.about(Integer.MIN_VALUE));
    }

    private static void tellsOfFloors() {
        DanceFloors x = Studios.small();
        x.set(3, 1, 0, 0, 5, 5);
        long[][] due = {{9, 2, 40, 20, 2, 34}, {1, 1, 0, 2, 1, 35}};
        for (int f = 0; f < due.length; f++) {
            for (int what = 0; what < due[f].length; what++) {
                int floor = f;
                int number = what;
                Checks.due("floorOf(" + f + ", " + what + ")", due[f][what], () -> x.floorOf(floor, number));
            }
        }
        Checks.dueIndex(x, "floorOf(2, 0)", () -> x.floorOf(2, 0));
        Checks.dueIndex(x, "floorOf(-1, 0)", () -> x.floorOf(-1, 0));
        Checks.dueIndex(x, "floorOf(2, 6)", () -> x.floorOf(2, 6));
        Checks.dueArgument(x, "floorOf(0, 6)", () -> x.floorOf(0, 6));
        Checks.dueArgument(x, "floorOf(0, -1)", () -> x.floorOf(0, -1));
    }

    private static void tellsOfTeachers() {
        DanceFloors x = Studios.small();
        x.set(3, 1, 0, 0, 4, 4);
        x.set(3, 1, 0, 0, 4, 5);
        long[][] due = {{15, 5, 3, 2}, {8, 3, 1, 1}};
        for (int t = 0; t < due.length; t++) {
            for (int what = 0; what < due[t].length; what++) {
                int teacher = t;
                int number = what;
                Checks.due("teacherOf(" + t + ", " + what + ")", due[t][what], () -> x.teacherOf(teacher, number));
            }
        }
        Checks.dueIndex(x, "teacherOf(2, 0)", () -> x.teacherOf(2, 0));
        Checks.dueIndex(x, "teacherOf(-1, 4)", () -> x.teacherOf(-1, 4));
        Checks.dueArgument(x, "teacherOf(0, 4)", () -> x.teacherOf(0, 4));
        Checks.dueArgument(x, "teacherOf(0, -1)", () -> x.teacherOf(0, -1));
    }

    private static void tellsOfClasses() {
        DanceFloors x = danced();
        long[][] due = {{3, 1, 0, 0, 0, 0, 20, 2, 2, 4}, {3, 2, 1, 1, 1, 2, 2, 1, 0, 0}};
        for (int k = 0; k < due.length; k++) {
            for (int what = 0; what < due[k].length; what++) {
                int lesson = k;
                int number = what;
                Checks.due("classOf(" + k + ", " + what + ")", due[k][what], () -> x.classOf(lesson, number));
            }
        }
        Checks.dueIndex(x, "classOf(2, 0)", () -> x.classOf(2, 0));
        Checks.dueIndex(x, "classOf(-1, 10)", () -> x.classOf(-1, 10));
        Checks.dueArgument(x, "classOf(0, 10)", () -> x.classOf(0, 10));
        Checks.dueArgument(x, "classOf(0, -1)", () -> x.classOf(0, -1));
    }

    private static void tellsHowManyAClassTakes() {
        takes(0, 30, 11, 5);
        takes(0, 30, 10, 5);
        takes(0, 4, 60, 4);
        takes(0, 30, 60, 30);
        takes(1, 30, 0, 30);
        takes(2, 7, 10, 7);
        takes(3, 1, 10, 1);
    }

    private static void takes(int style, int places, int barre, int due) {
        DanceFloors x = new DanceFloors();
        x.floor(5, 4, barre, places);
        x.teacher(15, 5);
        x.set(style, 1, 0, 0, 0, 0);
        Checks.due("classOf(0, 6) of style " + style + ", places " + places + ", barre " + barre, due,
                () -> x.classOf(0, 6));
    }

    private static void tellsOfDancers() {
        DanceFloors x = danced();
        x.pass(1);
        long[][] due = {{1, 2, 8, 2, 1, 2}, {1, 2, 18, 2, 2, 1}, {1, 0, 10, 0, 1, 0}};
        for (int d = 0; d < due.length; d++) {
            for (int what = 0; what < due[d].length; what++) {
                int dancer = d;
                int number = what;
                Checks.due("dancerOf(" + d + ", " + what + ")", due[d][what], () -> x.dancerOf(dancer, number));
            }
        }
        Checks.dueIndex(x, "dancerOf(3, 0)", () -> x.dancerOf(3, 0));
        Checks.dueIndex(x, "dancerOf(-1, 6)", () -> x.dancerOf(-1, 6));
        Checks.dueArgument(x, "dancerOf(0, 6)", () -> x.dancerOf(0, 6));
        Checks.dueArgument(x, "dancerOf(0, -1)", () -> x.dancerOf(0, -1));
    }

    private static void countsUsesInTwoWays() {
        DanceFloors x = danced();
        x.tune(0, 1);
        x.weeks(3);
        x.drop(0);
        x.weeks(1);
        for (int way = 0; way < 2; way++) {
            int number = way;
            Checks.due("uses(" + way + ")", 14, () -> x.uses(number));
        }
        Checks.due("about(7)", 14, () -> x.about(7));
        x.drop(0);
        for (int way = 0; way < 2; way++) {
            int number = way;
            Checks.due("uses(" + way + ") without classes", 14, () -> x.uses(number));
        }
        Checks.dueArgument(x, "uses(-1)", () -> x.uses(-1));
        Checks.dueArgument(x, "uses(2)", () -> x.uses(2));
    }

    private static void tellsSettings() {
        DanceFloors x = new DanceFloors();
        x.tune(0, 9);
        Checks.due("setting(0)", 9, () -> x.setting(0));
        Checks.due("setting(1)", 12, () -> x.setting(1));
        x.tune(1, 50);
        Checks.due("setting(0)", 9, () -> x.setting(0));
        Checks.due("setting(1)", 50, () -> x.setting(1));
        Checks.dueArgument(x, "setting(-1)", () -> x.setting(-1));
        Checks.dueArgument(x, "setting(2)", () -> x.setting(2));
    }
}
