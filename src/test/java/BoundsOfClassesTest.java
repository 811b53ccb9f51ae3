import java.util.Arrays;

/** FLOORS, TEACHERS, CLASSES, and promises 13 to 16, 24 and 26. */
public final class BoundsOfClassesTest {
    private static final int NONE = DanceFloors.NONE;

    public static void main(String[] args) {
        keepsTheLowestAndTheHighestFloor();
        keepsTheLowestAndTheHighestTeacher();
        numbersFloorsAndTeachersFromZero();
        suitsByEachSpringBarreAndMirrors();
        teachesItsStylesUpToTheHighestLevel();
        tellsTheFirstOfAllReasons();
        isInUseOnThisDayAtThisHourAlone();
        setsEachDayAndHour();
        setsTenClasses();
        refusalsAreCounted();
        numbersByAgeBehindADrop();
        whyDoesNotMindTen();
        takesAsManyAsPlacesAndBarreAllow();
        findsTheFloorThatTakesMost();
        findsNoFloor();
        Checks.end();
    }

    private static void keepsTheLowestAndTheHighestFloor() {
        int[][] bounds = {{1, 9}, {0, 4}, {0, 60}, {1, 30}};
        for (int i = 0; i < 4; i++) {
            for (int v : bounds[i]) {
                int[] a = {5, 2, 24, 8};
                a[i] = v;
                DanceFloors x = new DanceFloors();
                Checks.due("floor" + Arrays.toString(a), 0, () -> x.floor(a[0], a[1], a[2], a[3]));
                for (int what = 0; what < 4; what++) {
                    int number = what;
                    Checks.due("floorOf(0, " + what + ")", a[what], () -> x.floorOf(0, number));
                }
                Checks.due("its classes", 0, () -> x.floorOf(0, 4));
                Checks.due("its free hours", 36, () -> x.floorOf(0, 5));
            }
        }
    }

    private static void keepsTheLowestAndTheHighestTeacher() {
        for (int styles : new int[] {0, 15}) {
            for (int highest : new int[] {1, 5}) {
                DanceFloors x = new DanceFloors();
                Checks.due("teacher(" + styles + ", " + highest + ")", 0, () -> x.teacher(styles, highest));
                Checks.due("teacherOf(0, 0)", styles, () -> x.teacherOf(0, 0));
                Checks.due("teacherOf(0, 1)", highest, () -> x.teacherOf(0, 1));
                Checks.due("teacherOf(0, 2)", 0, () -> x.teacherOf(0, 2));
                Checks.due("teacherOf(0, 3)", 0, () -> x.teacherOf(0, 3));
            }
        }
    }

    private static void numbersFloorsAndTeachersFromZero() {
        DanceFloors x = new DanceFloors();
        for (int i = 0; i < 4; i++) {
            int f = i;
            Checks.due("floor " + f, f, () -> x.floor(1 + f, 0, f, 2));
        }
        for (int i = 0; i < 5; i++) {
            int t = i;
            Checks.due("teacher " + t, t, () -> x.teacher(3 * t, 1 + t));
        }
        Checks.same("a fifth floor", "throws.IllegalStateException", Checks.answerOf(() -> x.floor(1, 0, 0, 1)));
        Checks.same("a sixth teacher", "throws.IllegalStateException", Checks.answerOf(() -> x.teacher(0, 1)));
        for (int i = 0; i < 4; i++) {
            int f = i;
            Checks.due("spring of floor " + f, 1 + f, () -> x.floorOf(f, 0));
        }
        for (int i = 0; i < 5; i++) {
            int t = i;
            Checks.due("styles of teacher " + t, 3 * t, () -> x.teacherOf(t, 0));
        }
    }

    /** The styles as the document tells them, written as what is the least and the most. */
    private static int reasonByFloor(int style, int level, int spring, int mirrors, int barre) {
        int leastSpring = new int[] {4, 1, 3 + level, 1}[style];
        int mostSpring = new int[] {9, 5, 9, 9}[style];
        int leastBarre = style == 0 ? new int[] {0, 6, 8, 10, 12, 14}[level] : 0;
        int leastMirrors = style == 0 ? new int[] {0, 0, 1, 1, 2, 2}[level] : style == 1 ? 1 : 0;
        return spring < leastSpring || spring > mostSpring ? 4
                : barre < leastBarre ? 5 : mirrors < leastMirrors ? 6 : 0;
    }

    private static void suitsByEachSpringBarreAndMirrors() {
        for (int spring = 1; spring <= 9; spring++) {
            for (int mirrors = 0; mirrors <= 4; mirrors++) {
                for (int barre : new int[] {0, 5, 6, 7, 8, 9, 10, 11, 12, 13, 14, 15, 60}) {
                    suitsOn(spring, mirrors, barre);
                }
            }
        }
    }

    private static void suitsOn(int spring, int mirrors, int barre) {
        for (int style = 0; style < 4; style++) {
            for (int level = 1; level <= 5; level++) {
                int s = style;
                int l = level;
                DanceFloors x = new DanceFloors();
                x.floor(spring, mirrors, barre, 9);
                x.teacher(15, 5);
                int due = reasonByFloor(s, l, spring, mirrors, barre);
                String name = "(" + s + ", " + l + ") on floor(" + spring + ", " + mirrors + ", " + barre + ")";
                Checks.due("why" + name, due, () -> x.why(s, l, 0, 0, 0, 0));
                Checks.due("bestFloor" + name, due == 0 ? 0 : NONE, () -> x.bestFloor(s, l, 0, 0, 0));
                Checks.due("set" + name, due, () -> x.set(s, l, 0, 0, 0, 0));
                Checks.due("classes behind set" + name, due == 0 ? 1 : 0, () -> x.about(2));
                Checks.due("refused behind set" + name, due == 0 ? 0 : 1, () -> x.about(11));
            }
        }
    }

    private static void teachesItsStylesUpToTheHighestLevel() {
        for (int styles = 0; styles <= 15; styles++) {
            for (int highest = 1; highest <= 5; highest++) {
                DanceFloors x = new DanceFloors();
                x.floor(9, 4, 60, 30);
                x.floor(5, 4, 60, 30);
                x.teacher(styles, highest);
                for (int style = 0; style < 4; style++) {
                    for (int level = 1; level <= 5; level++) {
                        int s = style;
                        int l = level;
                        boolean taught = (styles / (1 << s)) % 2 == 1 && l <= highest;
                        Checks.due("why(" + s + ", " + l + ") by teacher(" + styles + ", " + highest + ")",
                                taught ? 0 : 3, () -> x.why(s, l, s == 1 ? 1 : 0, 0, 0, 0));
                    }
                }
            }
        }
    }

    /** All sets of reasons 1 to 6 (bit r - 1 for the reason r) that can be so for a ballet class of level 2. */
    private static void tellsTheFirstOfAllReasons() {
        for (int set = 0; set < 64; set++) {
            int due = set == 0 ? 0 : 1 + Integer.numberOfTrailingZeros(set);
            tellsTheFirst(studioWith(set, 14, 5), "with the style not taught, reasons " + set, set, due);
            tellsTheFirst(studioWith(set, 15, 1), "with the level too high, reasons " + set, set, due);
        }
    }

    private static DanceFloors studioWith(int set, int styles, int highest) {
        boolean notTaught = (set & 4) != 0;
        DanceFloors x = new DanceFloors();
        x.floor((set & 8) != 0 ? 3 : 4, (set & 32) != 0 ? 0 : 1, (set & 16) != 0 ? 7 : 8, 9);
        x.floor(1, 0, 0, 9);
        x.teacher(notTaught ? styles : 15, notTaught ? highest : 2);
        x.teacher(8, 1);
        if ((set & 1) != 0) {
            x.set(3, 1, 0, 1, 4, 3);
        }
        if ((set & 2) != 0) {
            x.set(3, 1, 1, 0, 4, 3);
        }
        return x;
    }

    private static void tellsTheFirst(DanceFloors x, String name, int set, int due) {
        int classes = Integer.bitCount(set & 3);
        Checks.due("classes " + name, classes, () -> x.about(2));
        Checks.due("why() " + name, due, () -> x.why(0, 2, 0, 0, 4, 3));
        Checks.due("set() " + name, due, () -> x.set(0, 2, 0, 0, 4, 3));
        Checks.due("classes behind it " + name, due == 0 ? classes + 1 : classes, () -> x.about(2));
        Checks.due("refused behind it " + name, due == 0 ? 0 : 1, () -> x.about(11));
    }

    private static void isInUseOnThisDayAtThisHourAlone() {
        DanceFloors x = new DanceFloors();
        x.floor(9, 4, 60, 30);
        x.floor(9, 4, 60, 30);
        x.teacher(15, 5);
        x.teacher(15, 5);
        x.set(3, 1, 0, 0, 2, 3);
        for (int day = 0; day < 6; day++) {
            for (int hour = 0; hour < 6; hour++) {
                int a = day;
                int b = hour;
                boolean isThen = a == 2 && b == 3;
                Checks.due("why() of both, " + a + ", " + b, isThen ? 1 : 0, () -> x.why(3, 1, 0, 0, a, b));
                Checks.due("why() of the floor, " + a + ", " + b, isThen ? 1 : 0, () -> x.why(3, 1, 0, 1, a, b));
                Checks.due("why() of the teacher, " + a + ", " + b, isThen ? 2 : 0, () -> x.why(3, 1, 1, 0, a, b));
                Checks.due("why() of neither, " + a + ", " + b, 0, () -> x.why(3, 1, 1, 1, a, b));
            }
        }
    }

    private static void setsEachDayAndHour() {
        for (int day = 0; day < 6; day++) {
            for (int hour = 0; hour < 6; hour++) {
                int a = day;
                int b = hour;
                DanceFloors x = new DanceFloors();
                x.floor(1, 0, 0, 1);
                x.teacher(8, 5);
                Checks.due("set() on day " + a + " at hour " + b, 0, () -> x.set(3, 5, 0, 0, a, b));
                Checks.due("its day", a, () -> x.classOf(0, 4));
                Checks.due("its hour", b, () -> x.classOf(0, 5));
                Checks.due("set() again", 1, () -> x.set(3, 5, 0, 0, a, b));
                Checks.due("free hours of the floor", 35, () -> x.floorOf(0, 5));
            }
        }
    }

    private static void setsTenClasses() {
        DanceFloors x = Studios.full();
        Checks.due("classes", 10, () -> x.about(2));
        Checks.due("classes of floor 0", 10, () -> x.floorOf(0, 4));
        Checks.due("free hours of floor 0", 26, () -> x.floorOf(0, 5));
        Checks.due("classes of teacher 0", 10, () -> x.teacherOf(0, 2));
        Checks.due("days of teacher 0", 2, () -> x.teacherOf(0, 3));
        Checks.due("classes of the last floor", 0, () -> x.floorOf(3, 4));
        Checks.due("classes of the last teacher", 0, () -> x.teacherOf(4, 2));
        Checks.same("an eleventh", "throws.IllegalStateException",
                Checks.answerOf(() -> x.set(3, 1, 0, 0, 5, 5)));
        x.drop(9);
        Checks.due("a tenth again", 0, () -> x.set(3, 1, 0, 0, 5, 5));
        Checks.due("days of teacher 0 then", 3, () -> x.teacherOf(0, 3));
        Checks.due("refused", 0, () -> x.about(11));
        DanceFloors y = Studios.loaded("Sf100001t151c310000c310010c310020c310030c310040c310050c310055");
        Checks.due("all days of a teacher", 6, () -> y.teacherOf(0, 3));
    }

    /** set() counts a refusal, why() and bestFloor() do not, nor does a call that throws. */
    private static void refusalsAreCounted() {
        DanceFloors x = Studios.loaded("Sf100001t151c310000");
        for (int n = 1; n <= 3; n++) {
            Checks.due("set() refused", 1, () -> x.set(3, 1, 0, 0, 0, 0));
            Checks.due("refused", n, () -> x.about(11));
        }
        x.why(3, 1, 0, 0, 0, 0);
        x.bestFloor(3, 1, 0, 0, 0);
        Checks.answerOf(() -> x.set(3, 1, 1, 0, 0, 0));
        Checks.answerOf(() -> x.set(4, 1, 0, 0, 0, 0));
        Checks.due("refused still", 3, () -> x.about(11));
        x.set(3, 1, 0, 0, 0, 1);
        Checks.due("refused still, behind a class that was set", 3, () -> x.about(11));
    }

    /** Class k of ten is on day k / 6 at hour k % 6; each of them is dropped once. */
    private static void numbersByAgeBehindADrop() {
        for (int k = 0; k < 10; k++) {
            int dropped = k;
            DanceFloors x = Studios.full();
            x.enter(11, 9);
            int due = k == 0 ? 2 : k == 9 ? 1 : 0;
            Checks.due("drop(" + k + ")", due, () -> x.drop(dropped));
            for (int i = 0; i < 9; i++) {
                int now = i;
                int before = i < k ? i : i + 1;
                Checks.due("day and hour of class " + i + " behind drop(" + k + ")", before,
                        () -> 6 * x.classOf(now, 4) + x.classOf(now, 5));
                Checks.due("seats in class " + i + " behind drop(" + k + ")", before == 0 ? 2 : before == 9 ? 1 : 0,
                        () -> x.classOf(now, 7));
                Checks.due("weeks of class " + i + " behind drop(" + k + ")", before == 0 ? 1 : 0,
                        () -> x.classOf(now, 8));
                Checks.due("uses in class " + i + " behind drop(" + k + ")", before == 0 ? 2 : 0,
                        () -> x.classOf(now, 9));
            }
            Checks.same("classOf(9, 0) behind drop(" + k + ")", "throws.IndexOutOfBoundsException",
                    Checks.answerOf(() -> x.classOf(9, 0)));
            Checks.due("seats behind drop(" + k + ")", 3 - due, () -> x.about(5));
            Checks.due("why() of the hour behind drop(" + k + ")", 0,
                    () -> x.why(3, 1, 0, 0, dropped / 6, dropped % 6));
            Checks.due("uses(1) behind drop(" + k + ")", 2, () -> x.uses(1));
            Checks.due("uses(0) behind drop(" + k + ")", 2, () -> x.uses(0));
        }
    }

    private static void whyDoesNotMindTen() {
        DanceFloors x = Studios.full();
        Checks.due("why() with ten classes", 0, () -> x.why(0, 5, 0, 0, 5, 5));
        Checks.due("why() with ten classes, in use", 1, () -> x.why(0, 5, 0, 0, 0, 0));
        Checks.due("bestFloor() with ten classes", 0, () -> x.bestFloor(0, 5, 0, 5, 5));
    }

    private static void takesAsManyAsPlacesAndBarreAllow() {
        takes(0, 1, 6, 1);
        takes(0, 2, 6, 2);
        takes(0, 3, 6, 3);
        takes(0, 4, 6, 3);
        takes(0, 4, 7, 3);
        takes(0, 4, 8, 4);
        takes(0, 30, 59, 29);
        takes(0, 30, 60, 30);
        takes(0, 29, 60, 29);
        for (int style = 1; style < 4; style++) {
            takes(style, 1, 0, 1);
            takes(style, 30, 0, 30);
            takes(style, 30, 1, 30);
        }
    }

    private static void takes(int style, int places, int barre, int due) {
        DanceFloors x = new DanceFloors();
        x.floor(style == 2 ? 4 : 5, 1, barre, places);
        x.teacher(15, 1);
        x.set(style, 1, 0, 0, 0, 0);
        Checks.due("what style " + style + " takes of " + places + " places at " + barre + " ells", due,
                () -> x.classOf(0, 6));
    }

    private static void findsTheFloorThatTakesMost() {
        DanceFloors x = new DanceFloors();
        x.teacher(15, 5);
        x.floor(4, 1, 8, 30);
        x.floor(4, 1, 12, 5);
        x.floor(4, 1, 11, 6);
        x.floor(4, 1, 12, 6);
        Checks.due("ballet: the most by barre and places", 3, () -> x.bestFloor(0, 1, 0, 0, 0));
        Checks.due("rounds: the most by places", 0, () -> x.bestFloor(3, 1, 0, 0, 0));
        findsTheLowestOfFloorsThatAreAlike();
    }

    private static void findsTheLowestOfFloorsThatAreAlike() {
        DanceFloors x = new DanceFloors();
        x.teacher(15, 5);
        for (int f = 0; f < 4; f++) {
            x.floor(9, 4, 60, 30);
            x.teacher(8, 1);
        }
        for (int f = 0; f < 4; f++) {
            Checks.due("the lowest of " + (4 - f) + " floors", f, () -> x.bestFloor(0, 5, 0, 5, 5));
            x.set(3, 1, f, 1 + f, 5, 5);
        }
        Checks.due("with all floors in use", NONE, () -> x.bestFloor(0, 5, 0, 5, 5));
    }

    private static void findsNoFloor() {
        DanceFloors x = new DanceFloors();
        x.teacher(15, 4);
        x.teacher(7, 5);
        Checks.due("without floors", NONE, () -> x.bestFloor(3, 1, 0, 0, 0));
        x.floor(3, 0, 60, 30);
        Checks.due("with one of the wrong spring", NONE, () -> x.bestFloor(0, 1, 0, 0, 0));
        Checks.due("with too few mirrors", NONE, () -> x.bestFloor(1, 1, 0, 0, 0));
        Checks.due("of too high a level", NONE, () -> x.bestFloor(3, 5, 0, 0, 0));
        Checks.due("of a style that is not taught", NONE, () -> x.bestFloor(3, 1, 1, 0, 0));
        Checks.due("that suits", 0, () -> x.bestFloor(3, 4, 0, 0, 0));
        x.set(3, 1, 0, 0, 0, 0);
        Checks.due("when the floor is in use", NONE, () -> x.bestFloor(3, 4, 0, 0, 0));
        x.floor(1, 0, 0, 1);
        Checks.due("when the teacher is in use", NONE, () -> x.bestFloor(3, 4, 0, 0, 0));
    }
}
