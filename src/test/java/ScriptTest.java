/** Promises 29 and 30: runScript, simulate. */
public final class ScriptTest {
    private static final int NONE = DanceFloors.NONE;

    public static void main(String[] args) {
        runsSingleCommands();
        refusesWrongGroups();
        runsInOrderOnACopy();
        scriptThrows();
        simulatesTurns();
        simulateThrows();
        Checks.end();
    }

    private static void script(DanceFloors x, int n, long script, int due) {
        String before = Studios.counts(x);
        Checks.due("runScript(" + n + ", " + script + ")", due, () -> x.runScript(n, script));
        Checks.same("the counts behind the script " + script, before, Studios.counts(x));
    }

    /** A script on danced(), and a look at all behind it. */
    private static void script(int n, long script, int due) {
        DanceFloors x = danced();
        Checks.due("runScript(" + n + ", " + script + ")", due, () -> x.runScript(n, script));
        Checks.same("what there is behind the script " + script, Studios.look(danced()), Studios.look(x));
        Checks.due("undo(): the script " + script + " is no action", 2, x::undo);
    }

    /** Dancers 0 and 1 have a seat in class 0, and 8 uses left; 2 classes were held. */
    private static DanceFloors danced() {
        DanceFloors x = Studios.small();
        x.enter(0, 0);
        x.enter(1, 0);
        x.weeks(2);
        return x;
    }

    private static void runsSingleCommands() {
        script(1, 12000, NONE);
        script(1, 10000, 0);
        script(1, 13000, 0);
        script(1, 12200, 0);
        script(1, 21000, NONE);
        script(1, 22000, 0);
        script(1, 23000, 0);
        script(1, 20200, 0);
        script(1, 30001, NONE);
        script(1, 30009, NONE);
        script(1, 30000, 0);
        script(1, 42000, NONE);
        script(1, 43000, 0);
        script(1, 51000, NONE);
        script(1, 52000, 0);
        script(1, 60000, NONE);
        script(1, 60001, NONE);
        script(1, 60002, 0);
        script(1, 63000, 0);
        script(1, 70008, NONE);
        script(1, 70009, 0);
        script(1, 72010, NONE);
        script(1, 72011, 0);
        script(1, 73000, 0);
        script(1, 80002, NONE);
        script(1, 80003, 0);
        script(1, 82000, 0);
        script(1, 90002, NONE);
        script(1, 90003, 0);
    }

    private static void refusesWrongGroups() {
        long[] wrong = {0, 1, 9999, 12001, 12010, 21001, 21010, 30011, 30101, 31001, 42001, 42010, 42100,
            51001, 51010, 51100, 60010, 60100, 60011, 70100, 80100, 90100, 91000, 99999};
        for (long group : wrong) {
            script(1, group, 0);
        }
        DanceFloors x = danced();
        Studios.passes(x, 2, 8);
        x.pass(0);
        script(x, 1, 42000, 0);
        script(x, 1, 72090, NONE);
    }

    private static void runsInOrderOnACopy() {
        script(3, 21000_21000_12000L, 1);
        script(3, 21000_11000_80002L, NONE);
        script(3, 12000_30001_90003L, NONE);
        script(3, 12000_30001_90004L, 2);
        script(3, 30004_70004_70005L, 2);
        script(2, 51000_51000L, 1);
        script(2, 51000_50000L, NONE);
        script(2, 42000_72020L, NONE);
        script(2, 12000L, 0);
        script(3, 12000L, 0);
        script(3, 50000_90002_80001L, 2);
    }

    private static void scriptThrows() {
        DanceFloors x = danced();
        Checks.dueArgument(x, "runScript(0, 0)", () -> x.runScript(0, 0));
        Checks.dueArgument(x, "runScript(4, 0)", () -> x.runScript(4, 0));
        Checks.dueArgument(x, "runScript(-1, 0)", () -> x.runScript(-1, 0));
        Checks.dueArgument(x, "runScript(1, -1)", () -> x.runScript(1, -1));
        Checks.dueArgument(x, "runScript(1, lowest)", () -> x.runScript(1, Long.MIN_VALUE));
        Checks.dueArgument(x, "runScript(1, 100000)", () -> x.runScript(1, 100000L));
        Checks.dueArgument(x, "runScript(2, 10000000000)", () -> x.runScript(2, 10000000000L));
        Checks.dueArgument(x, "runScript(3, 1000000000000000)", () -> x.runScript(3, 1000000000000000L));
        Checks.dueArgument(x, "runScript(3, highest)", () -> x.runScript(3, Long.MAX_VALUE));
        script(x, 2, 99999_99999L, 0);
        script(x, 3, 99999_99999_99999L, 0);
    }

    private static void simulatesTurns() {
        for (int m = 1; m <= 100; m += 3) {
            for (long seed = -40; seed < 40; seed++) {
                simulates("S", seed * 7919 + m, m);
            }
        }
        for (int i = 0; i < 300; i++) {
            simulates("Sf924030f540020f330025t155t155t155ddddddddp00p01p02p03p04p05p06p07"
                    + "c310000c321010c310102", i, 100);
        }
        simulatesManySeats();
        simulates("S", Long.MIN_VALUE, 100);
        simulates("S", Long.MAX_VALUE, 100);
        simulates("S", 0, 1);
    }

    private static void simulates(String text, long seed, int m) {
        DanceFloors x = Studios.loaded(text);
        String before = Studios.look(x);
        Model model = new Model();
        for (int i = 0; i < text.length(); i++) {
            model.append(text.charAt(i));
        }
        model.load();
        long due = model.simulate(seed, m);
        Checks.due("simulate(" + seed + ", " + m + ") of " + text, due, () -> x.simulate(seed, m));
        Checks.due("simulate again", due, () -> x.simulate(seed, m));
        Checks.same("what there is behind simulate", before, Studios.look(x));
        Checks.dueState(x, "simulate is no action", x::undo);
    }

    /** Ten classes at ten hours, each with all twelve dancers: 120 seats, of which simulate tells 20. */
    private static void simulatesManySeats() {
        DanceFloors x = Studios.loaded("Sf100030t085dddddddddddd");
        for (int k = 0; k < 10; k++) {
            x.set(3, 1, 0, 0, k / 6, k % 6);
            for (int d = 0; d < 12; d++) {
                x.enter(d, k);
            }
        }
        Checks.due("seats", 120, () -> x.about(5));
        long seed = 0;
        while (kindOfFirstTurn(seed) != 0) {
            seed++;
        }
        long found = seed;
        Checks.due("simulate() of a turn that adds a floor", 1020, () -> x.simulate(found, 1));
    }

    private static int kindOfFirstTurn(long seed) {
        return (int) (seed * 6364136223846793005L + 1442695040888963407L >>> 33) % 16;
    }

    private static void simulateThrows() {
        DanceFloors x = danced();
        Checks.dueArgument(x, "simulate(1, 0)", () -> x.simulate(1, 0));
        Checks.dueArgument(x, "simulate(1, 101)", () -> x.simulate(1, 101));
        Checks.dueArgument(x, "simulate(1, -1)", () -> x.simulate(1, -1));
    }
}
