import java.util.Random;

/** All promises: runs of calls, chosen by fixed seeds, on the program and on the model; every answer must agree. */
public final class RandomRunsTest {
    private interface OnProgram {
        long call(DanceFloors x);
    }

    private interface OnModel {
        long call(Model m);
    }

    private static final int RUNS = 2000;
    /** What comes behind the 512th call of an object is not promised. */
    private static final int CALLS = 512;
    private static final String SIGNS = "ftcdpelxw0123456789 S";

    private final int run;
    private final Random random;
    private final DanceFloors program = new DanceFloors();
    private final Model model = new Model();
    private int calls = 0;

    private RandomRunsTest(int run) {
        this.run = run;
        this.random = new Random(run);
    }

    public static void main(String[] args) {
        for (int run = 0; run < RUNS; run++) {
            new RandomRunsTest(run).play();
        }
        Checks.end();
    }

    private void play() {
        for (int i = 0; i < 30; i++) {
            build();
        }
        while (calls < CALLS) {
            step();
        }
    }

    private void both(String name, OnProgram onProgram, OnModel onModel) {
        if (calls == CALLS) {
            return;
        }
        calls++;
        String due = Checks.answerOf(() -> onModel.call(model));
        String got = Checks.answerOf(() -> onProgram.call(program));
        Checks.same("run " + run + ": " + name, due, got);
    }

    /** Mostly 0 to size - 1, sometimes just outside, seldom far outside. */
    private int near(int size) {
        int dice = random.nextInt(60);
        return dice == 0 ? -1 : dice == 1 ? size : dice == 2 ? random.nextInt() : random.nextInt(size);
    }

    private void build() {
        switch (random.nextInt(4)) {
            case 0: addFloor(); break;
            case 1: addTeacher(); break;
            case 2: both("dancer", x -> x.dancer(), m -> m.dancer()); break;
            default: setClass(); break;
        }
    }

    private void step() {
        int dice = random.nextInt(100);
        if (dice < 40) {
            act();
        } else if (dice < 80) {
            ask();
        } else if (dice < 90) {
            lookAhead();
        } else if (dice < 96) {
            both("undo", x -> x.undo(), m -> m.undo());
        } else if (dice < 98) {
            useSlot();
        } else {
            useText();
        }
    }

    private void addFloor() {
        int a = 1 + near(9);
        int b = near(5);
        int c = near(61);
        int d = 1 + near(random.nextBoolean() ? 30 : 3);
        both("floor", x -> x.floor(a, b, c, d), m -> m.floor(a, b, c, d));
    }

    private void addTeacher() {
        int a = random.nextBoolean() ? 15 : near(16);
        int b = 1 + near(5);
        both("teacher", x -> x.teacher(a, b), m -> m.teacher(a, b));
    }

    private void setClass() {
        int a = near(4);
        int b = 1 + near(random.nextBoolean() ? 2 : 5);
        int c = near(4);
        int d = near(5);
        int e = near(random.nextBoolean() ? 2 : 6);
        int f = near(random.nextBoolean() ? 2 : 6);
        both("why", x -> x.why(a, b, c, d, e, f), m -> m.why(a, b, c, d, e, f));
        both("bestFloor", x -> x.bestFloor(a, b, d, e, f), m -> m.bestFloor(a, b, d, e, f));
        both("set", x -> x.set(a, b, c, d, e, f), m -> m.set(a, b, c, d, e, f));
    }

    private void act() {
        int d = near(12);
        int k = near(10);
        int n = 1 + near(9);
        switch (random.nextInt(16)) {
            case 0: addFloor(); break;
            case 1: addTeacher(); break;
            case 2: case 3: setClass(); break;
            case 4: both("dancer", x -> x.dancer(), m -> m.dancer()); break;
            case 5: case 6: both("pass " + d, x -> x.pass(d), m -> m.pass(d)); break;
            case 7: case 8: case 9: case 10: case 11:
                both("whySeat " + d + " " + k, x -> x.whySeat(d, k), m -> m.whySeat(d, k));
                both("enter " + d + " " + k, x -> x.enter(d, k), m -> m.enter(d, k));
                break;
            case 12: both("leave " + d + " " + k, x -> x.leave(d, k), m -> m.leave(d, k)); break;
            case 13: both("weeks " + n, x -> x.weeks(n), m -> m.weeks(n)); break;
            case 14: tune(); break;
            default:
                if (random.nextInt(3) == 0) {
                    both("drop " + k, x -> x.drop(k), m -> m.drop(k));
                }
                break;
        }
    }

    private void tune() {
        int what = near(2);
        int v = 1 + near(what == 0 ? random.nextInt(3) + 1 : random.nextBoolean() ? 50 : 6);
        both("tune " + what + " " + v, x -> x.tune(what, v), m -> m.tune(what, v));
    }

    private void ask() {
        int what = near(12);
        int i = near(12);
        int small = near(6);
        switch (random.nextInt(7)) {
            case 0: both("about " + what, x -> x.about(what), m -> m.about(what)); break;
            case 1: both("floorOf " + i, x -> x.floorOf(i % 5, small), m -> m.floorOf(i % 5, small)); break;
            case 2: both("teacherOf " + i, x -> x.teacherOf(i % 6, small), m -> m.teacherOf(i % 6, small)); break;
            case 3: both("classOf " + i, x -> x.classOf(i, what), m -> m.classOf(i, what)); break;
            case 4: both("dancerOf " + i, x -> x.dancerOf(i, small), m -> m.dancerOf(i, small)); break;
            case 5: both("uses " + small, x -> x.uses(small % 3), m -> m.uses(small % 3)); break;
            default: both("setting " + small, x -> x.setting(small % 3), m -> m.setting(small % 3)); break;
        }
    }

    private void lookAhead() {
        int d = near(12);
        int n = 1 + near(3);
        long script = script(n);
        long seed = random.nextLong();
        int turns = 1 + near(100);
        switch (random.nextInt(6)) {
            case 0: both("emptyIn " + d, x -> x.emptyIn(d), m -> m.emptyIn(d)); break;
            case 1: both("held", x -> x.held(), m -> m.held()); break;
            case 2: both("simulate " + seed, x -> x.simulate(seed, turns), m -> m.simulate(seed, turns)); break;
            default: both("runScript " + n + " " + script, x -> x.runScript(n, script), m -> m.runScript(n, script));
        }
    }

    private long script(int n) {
        long script = random.nextInt(50) == 0 ? random.nextLong() : 0;
        for (int i = 0; i < n && i < 3; i++) {
            script = script * 100000 + group();
        }
        return script;
    }

    private long group() {
        int kind = 1 + random.nextInt(9);
        int a = random.nextInt(10);
        int b = random.nextInt(10);
        switch (random.nextInt(12) == 0 ? 0 : kind) {
            case 0: return random.nextInt(100000);
            case 1: case 2: return 10000 * kind + 1000 * a + 100 * b;
            case 3: return 30000 + a;
            case 4: case 5: return 10000 * kind + 1000 * a;
            case 6: return 60000 + 1000 * a + random.nextInt(5);
            case 7: return 70000 + 1000 * a + random.nextInt(100);
            case 8: return 80000 + 1000 * a + random.nextInt(6);
            default: return 90000 + random.nextInt(100);
        }
    }

    private void useSlot() {
        int slot = near(2);
        if (random.nextBoolean()) {
            both("save " + slot, x -> x.save(slot), m -> m.save(slot));
        } else {
            both("restore " + slot, x -> x.restore(slot), m -> m.restore(slot));
        }
    }

    private void useText() {
        StringBuilder text = new StringBuilder("S");
        for (int i = random.nextInt(25); i > 0; i--) {
            text.append(command());
        }
        if (random.nextInt(3) == 0) {
            int at = random.nextInt(text.length());
            text.setCharAt(at, SIGNS.charAt(random.nextInt(SIGNS.length())));
        }
        if (random.nextInt(6) == 0) {
            text.setLength(random.nextInt(text.length()));
        }
        both("clearText", x -> x.clearText(), m -> m.clearText());
        for (int i = 0; i < text.length(); i++) {
            char sign = text.charAt(i);
            both("append", x -> x.append(sign), m -> m.append(sign));
        }
        both("errorPosition of " + text, x -> x.errorPosition(), m -> m.errorPosition());
        if (random.nextInt(3) == 0) {
            both("load of " + text, x -> x.load(), m -> m.load());
        }
    }

    private String command() {
        int a = random.nextInt(10);
        int two = random.nextInt(12);
        switch (random.nextInt(10)) {
            case 0: return String.format("f%d%d%02d%02d", 1 + a % 9, a % 5, random.nextInt(61), 1 + random.nextInt(30));
            case 1: return String.format("t%02d%d", random.nextInt(16), 1 + a % 5);
            case 2: case 3:
                return String.format("c%d%d%d%d%d%d", random.nextInt(4), 1 + a % 5, random.nextInt(4),
                        random.nextInt(5), random.nextInt(6), random.nextInt(6));
            case 4: case 5: return "d";
            case 6: return String.format("p%02d", two);
            case 7: return String.format("e%02d%d", two, a % 3);
            case 8: return String.format("l%02d%d", two, a);
            default: return random.nextBoolean() ? "x" + a : "w" + (1 + a % 9);
        }
    }
}
