/**
 * EXCEPTIONS, and the throws of promises 2 to 32: each call that is refused, alone, on a studio that has all that
 * there can be and 14 remembered states; the exception that is named first comes, and nothing at all is changed.
 */
public final class BoundsOfExceptionsTest {
    private interface OnStudio {
        long call(DanceFloors x);
    }

    private static final String INDEX = "throws.IndexOutOfBoundsException";
    private static final String ARGUMENT = "throws.IllegalArgumentException";
    private static final String STATE = "throws.IllegalStateException";
    private static final int LOWEST = Integer.MIN_VALUE;
    private static final int HIGHEST = Integer.MAX_VALUE;

    private static final String UNTOUCHED = Studios.look(remembering());

    public static void main(String[] args) {
        textThrows();
        questionsThrow();
        floorAndTeacherThrow();
        setThrows();
        whyAndBestFloorThrow();
        classAndDancerActionsThrow();
        weeksAndTuneThrow();
        questionsAheadThrow();
        scriptsThrow();
        slotsThrow();
        Checks.end();
    }

    /** A full studio with 14 remembered states, a text that is no studio, and a state in slot 0 alone. */
    private static DanceFloors remembering() {
        DanceFloors x = Studios.full();
        Studios.type(x, "Sdf");
        x.save(0);
        for (int v = 1; v <= 15; v++) {
            x.tune(1, v);
        }
        return x;
    }

    private static void thrown(String name, String due, OnStudio call) {
        DanceFloors x = remembering();
        Checks.same(name, due, Checks.answerOf(() -> call.call(x)));
        Checks.same(name + ": what there is behind it", UNTOUCHED, Studios.look(x));
        for (int left = 13; left >= 0; left--) {
            Checks.due(name + ": undo() behind it", left, x::undo);
        }
        Checks.due(name + ": setting(1) behind all undo()", 1, () -> x.setting(1));
        Checks.same(name + ": one more undo()", STATE, Checks.answerOf(x::undo));
        Checks.same(name + ": restore(1)", STATE, Checks.answerOf(() -> x.restore(1)));
        Checks.due(name + ": restore(0)", 1, () -> x.restore(0));
        Checks.due(name + ": setting(1) behind restore(0)", 12, () -> x.setting(1));
        Checks.due(name + ": clearText()", 3, x::clearText);
    }

    /** A call whose argument is just outside on either side, and as far outside as an int goes. */
    private static void argumentOutside(String name, int low, int high, java.util.function.IntFunction<OnStudio> call) {
        for (int v : new int[] {low - 1, high + 1, LOWEST, HIGHEST}) {
            thrown(name + " of " + v, ARGUMENT, call.apply(v));
        }
    }

    private static void indexOutside(String name, int size, java.util.function.IntFunction<OnStudio> call) {
        for (int i : new int[] {-1, size, LOWEST, HIGHEST}) {
            thrown(name + " of " + i, INDEX, call.apply(i));
        }
    }

    private static void textThrows() {
        argumentOutside("append", 0, 255, v -> x -> x.append(v));
        thrown("load() of no studio", STATE, x -> x.load());
    }

    private static void questionsThrow() {
        argumentOutside("about", 0, 11, v -> x -> x.about(v));
        indexOutside("floorOf(f, 0)", 4, i -> x -> x.floorOf(i, 0));
        indexOutside("floorOf(f, 6): the floor is named first", 4, i -> x -> x.floorOf(i, 6));
        argumentOutside("floorOf(3, what)", 0, 5, v -> x -> x.floorOf(3, v));
        indexOutside("teacherOf(t, 0)", 5, i -> x -> x.teacherOf(i, 0));
        indexOutside("teacherOf(t, -1): the teacher is named first", 5, i -> x -> x.teacherOf(i, -1));
        argumentOutside("teacherOf(4, what)", 0, 3, v -> x -> x.teacherOf(4, v));
        indexOutside("classOf(k, 0)", 10, i -> x -> x.classOf(i, 0));
        indexOutside("classOf(k, 10): the class is named first", 10, i -> x -> x.classOf(i, 10));
        argumentOutside("classOf(9, what)", 0, 9, v -> x -> x.classOf(9, v));
        indexOutside("dancerOf(d, 0)", 12, i -> x -> x.dancerOf(i, 0));
        indexOutside("dancerOf(d, -1): the dancer is named first", 12, i -> x -> x.dancerOf(i, -1));
        argumentOutside("dancerOf(11, what)", 0, 5, v -> x -> x.dancerOf(11, v));
        argumentOutside("uses", 0, 1, v -> x -> x.uses(v));
        argumentOutside("setting", 0, 1, v -> x -> x.setting(v));
    }

    private static void floorAndTeacherThrow() {
        thrown("a fifth floor", STATE, x -> x.floor(1, 0, 0, 1));
        argumentOutside("a fifth floor with a spring", 1, 9, v -> x -> x.floor(v, 0, 0, 1));
        argumentOutside("a fifth floor with mirrors", 0, 4, v -> x -> x.floor(1, v, 0, 1));
        argumentOutside("a fifth floor with a barre", 0, 60, v -> x -> x.floor(1, 0, v, 1));
        argumentOutside("a fifth floor with places", 1, 30, v -> x -> x.floor(1, 0, 0, v));
        thrown("a sixth teacher", STATE, x -> x.teacher(0, 1));
        argumentOutside("a sixth teacher with styles", 0, 15, v -> x -> x.teacher(v, 1));
        argumentOutside("a sixth teacher with a highest level", 1, 5, v -> x -> x.teacher(0, v));
    }

    private static void setThrows() {
        thrown("an eleventh class", STATE, x -> x.set(3, 1, 0, 0, 5, 5));
        thrown("an eleventh class that would be refused", STATE, x -> x.set(3, 1, 0, 0, 0, 0));
        indexOutside("set() on a floor", 4, i -> x -> x.set(3, 1, i, 0, 5, 5));
        indexOutside("set() on a floor, all else wrong", 4, i -> x -> x.set(4, 6, i, 0, 6, 6));
        indexOutside("set() by a teacher", 5, i -> x -> x.set(3, 1, 0, i, 5, 5));
        indexOutside("set() by a teacher, all else wrong", 5, i -> x -> x.set(-1, 0, 0, i, -1, -1));
        argumentOutside("an eleventh class of a style", 0, 3, v -> x -> x.set(v, 1, 0, 0, 5, 5));
        argumentOutside("an eleventh class of a level", 1, 5, v -> x -> x.set(3, v, 0, 0, 5, 5));
        argumentOutside("an eleventh class on a day", 0, 5, v -> x -> x.set(3, 1, 0, 0, v, 5));
        argumentOutside("an eleventh class at an hour", 0, 5, v -> x -> x.set(3, 1, 0, 0, 5, v));
    }

    private static void whyAndBestFloorThrow() {
        indexOutside("why() on a floor", 4, i -> x -> x.why(3, 1, i, 0, 5, 5));
        indexOutside("why() on a floor, all else wrong", 4, i -> x -> x.why(4, 6, i, 0, 6, 6));
        indexOutside("why() by a teacher", 5, i -> x -> x.why(3, 1, 0, i, 5, 5));
        indexOutside("why() by a teacher, all else wrong", 5, i -> x -> x.why(-1, 0, 0, i, -1, -1));
        argumentOutside("why() of a style", 0, 3, v -> x -> x.why(v, 1, 0, 0, 5, 5));
        argumentOutside("why() of a level", 1, 5, v -> x -> x.why(3, v, 0, 0, 5, 5));
        argumentOutside("why() on a day", 0, 5, v -> x -> x.why(3, 1, 0, 0, v, 5));
        argumentOutside("why() at an hour", 0, 5, v -> x -> x.why(3, 1, 0, 0, 5, v));
        indexOutside("bestFloor() by a teacher", 5, i -> x -> x.bestFloor(3, 1, i, 5, 5));
        indexOutside("bestFloor() by a teacher, all else wrong", 5, i -> x -> x.bestFloor(4, 6, i, 6, 6));
        argumentOutside("bestFloor() of a style", 0, 3, v -> x -> x.bestFloor(v, 1, 0, 5, 5));
        argumentOutside("bestFloor() of a level", 1, 5, v -> x -> x.bestFloor(3, v, 0, 5, 5));
        argumentOutside("bestFloor() on a day", 0, 5, v -> x -> x.bestFloor(3, 1, 0, v, 5));
        argumentOutside("bestFloor() at an hour", 0, 5, v -> x -> x.bestFloor(3, 1, 0, 5, v));
    }

    private static void classAndDancerActionsThrow() {
        indexOutside("drop", 10, i -> x -> x.drop(i));
        thrown("a thirteenth dancer", STATE, x -> x.dancer());
        indexOutside("pass", 12, i -> x -> x.pass(i));
        thrown("pass(0) with 99 left", STATE, x -> x.pass(0));
        indexOutside("enter() of a dancer", 12, i -> x -> x.enter(i, 0));
        indexOutside("enter() of a class", 10, i -> x -> x.enter(0, i));
        indexOutside("leave() of a dancer", 12, i -> x -> x.leave(i, 0));
        indexOutside("leave() of a class", 10, i -> x -> x.leave(0, i));
        thrown("leave() by one who has no seat at all", STATE, x -> x.leave(11, 0));
        thrown("leave() by one who has a seat elsewhere", STATE, x -> x.leave(0, 9));
    }

    private static void weeksAndTuneThrow() {
        argumentOutside("weeks", 1, 9, v -> x -> x.weeks(v));
        argumentOutside("tune() of what", 0, 1, v -> x -> x.tune(v, 5));
        argumentOutside("tune(0, v)", 1, 9, v -> x -> x.tune(0, v));
        argumentOutside("tune(1, v)", 1, 50, v -> x -> x.tune(1, v));
    }

    private static void questionsAheadThrow() {
        indexOutside("whySeat() of a dancer", 12, i -> x -> x.whySeat(i, 0));
        indexOutside("whySeat() of a class", 10, i -> x -> x.whySeat(0, i));
        indexOutside("emptyIn", 12, i -> x -> x.emptyIn(i));
    }

    private static void scriptsThrow() {
        argumentOutside("runScript(n, 0)", 1, 3, v -> x -> x.runScript(v, 0));
        for (int n = 1; n <= 3; n++) {
            int commands = n;
            long first = n == 1 ? 100000L : n == 2 ? 10000000000L : 1000000000000000L;
            for (long script : new long[] {-1, Long.MIN_VALUE, first, Long.MAX_VALUE}) {
                thrown("runScript(" + n + ", " + script + ")", ARGUMENT, x -> x.runScript(commands, script));
            }
        }
        argumentOutside("simulate(0, m)", 1, 100, v -> x -> x.simulate(0, v));
    }

    private static void slotsThrow() {
        indexOutside("save", 2, i -> x -> x.save(i));
        indexOutside("restore", 2, i -> x -> x.restore(i));
        thrown("restore(1), in which nothing is", STATE, x -> x.restore(1));
    }
}
