/** Promise 29: every group of five digits, each command up to where it fails, and scripts of one to three. */
public final class BoundsOfScriptsTest {
    private static final int NONE = DanceFloors.NONE;

    public static void main(String[] args) {
        everyGroupOnSeveralStudios();
        entersUntilRefused();
        entersWhereThereIsNone();
        leavesWhereThereIsASeat();
        letsOneToNineWeeksGoBy();
        givesPassesBelowNinety();
        dropsWhatThereIs();
        comparesLevels();
        comparesUsesLeft();
        comparesSeats();
        comparesClassesHeld();
        wrongDigitsFail();
        countsDigitsOfTheNumber();
        firstThatFailsIsTold();
        laterCommandsSeeWhatEarlierDid();
        stateStaysAsItWas();
        Checks.end();
    }

    private static void script(DanceFloors x, int n, long script, int due) {
        Checks.due("runScript(" + n + ", " + script + ")", due, () -> x.runScript(n, script));
    }

    private static void group(DanceFloors x, int group, boolean succeeds) {
        script(x, 1, group, succeeds ? NONE : 0);
    }

    /** Each number of up to five digits, compared with the model, 400 calls on an object. */
    private static void everyGroupOnSeveralStudios() {
        everyGroup("S");
        everyGroup("Sf100009f100002t155t155ddddddddddddc310000c321100c330001c310002p00p01p09p00e000e010e002e092w3");
        everyGroup("Sf100001t085ddp00p01c310000c310001c310002c310003c310004c310005"
                + "c310010c310011c310012c310013e009e013");
    }

    private static void everyGroup(String text) {
        Model model = new Model();
        for (int i = 0; i < text.length(); i++) {
            model.append(text.charAt(i));
        }
        model.load();
        for (int from = 0; from < 100000; from += 250) {
            DanceFloors x = Studios.loaded(text);
            for (int group = from; group < from + 250; group++) {
                script(x, 1, group, model.runScript(1, group));
            }
        }
    }

    private static void entersUntilRefused() {
        DanceFloors x = Studios.loaded("Sf100001f100002t085t085dddc310000c330001c311100c320010e000e012");
        group(x, 10000, false);
        group(x, 10100, false);
        group(x, 10200, false);
        group(x, 10300, true);
        group(x, 11000, false);
        group(x, 12000, false);
        group(x, 12200, true);
        group(x, 12300, true);
        script(x, 2, 12200_10300L, NONE);
        script(x, 2, 12300_10300L, 1);
    }

    private static void entersWhereThereIsNone() {
        DanceFloors x = Studios.loaded("S" + "d".repeat(9) + "f100009t085c310000c310001c310002c310003");
        group(x, 18000, true);
        group(x, 19000, false);
        group(x, 10300, true);
        group(x, 10400, false);
        x.dancer();
        group(x, 19000, true);
        for (int k = 4; k < 10; k++) {
            x.set(3, 1, 0, 0, 1, k - 4);
        }
        group(x, 19900, true);
    }

    private static void leavesWhereThereIsASeat() {
        DanceFloors x = Studios.loaded("Sf100009t085ddc310000c310001e000e011");
        group(x, 20000, true);
        group(x, 20100, false);
        group(x, 21000, false);
        group(x, 21100, true);
        group(x, 22000, false);
        group(x, 20200, false);
        script(x, 2, 20000_20000L, 1);
    }

    private static void letsOneToNineWeeksGoBy() {
        DanceFloors x = Studios.loaded("Sf100009t085ddp00p01c310000e000e010");
        group(x, 30000, false);
        for (int n = 1; n <= 9; n++) {
            group(x, 30000 + n, true);
            script(x, 2, 100000L * (30000 + n) + 90000 + n, NONE);
            script(x, 2, 100000L * (30000 + n) + 90001 + n, 1);
        }
        group(x, 30010, false);
        group(new DanceFloors(), 30009, true);
    }

    private static void givesPassesBelowNinety() {
        DanceFloors x = Studios.loaded("Sddf100009t085c310000e000e010");
        Studios.passes(x, 0, 8);
        Studios.passes(x, 1, 1);
        script(x, 3, 40000_70090_40000L, 2);
        script(x, 3, 40000_30001_40000L, NONE);
        script(x, 3, 40000_41000_71020L, NONE);
        group(x, 42000, false);
        x.pass(0);
        group(x, 40000, false);
        x.weeks(1);
        group(x, 40000, true);
    }

    private static void dropsWhatThereIs() {
        DanceFloors x = Studios.loaded("Sf100009t085c310000");
        group(x, 50000, true);
        group(x, 51000, false);
        script(x, 2, 50000_50000L, 1);
        DanceFloors y = Studios.full();
        group(y, 59000, true);
        script(y, 2, 59000_59000L, 1);
        script(y, 3, 58000_58000_58000L, 2);
        group(new DanceFloors(), 50000, false);
    }

    private static void comparesLevels() {
        DanceFloors x = Studios.loaded("Sf100009t085dddddddddddp00p09c310000e000e090");
        x.tune(1, 1);
        for (int level = 1; level <= 5; level++) {
            for (int l = 0; l <= 9; l++) {
                group(x, 60000 + l, level >= l);
                group(x, 69000 + l, level >= l);
                group(x, 61000 + l, l <= 1);
            }
            x.weeks(1);
        }
        group(Studios.loaded("Sddddddddd"), 69000, false);
        group(Studios.loaded("Sdddddddddd"), 69001, true);
    }

    private static void comparesUsesLeft() {
        DanceFloors x = Studios.loaded("Sddf100009t085c310000e000e010p01");
        Studios.passes(x, 0, 9);
        group(x, 70089, true);
        group(x, 70090, true);
        group(x, 70091, false);
        group(x, 71010, true);
        group(x, 71011, false);
        group(x, 72000, false);
        x.weeks(1);
        x.pass(0);
        group(x, 70099, true);
        group(Studios.loaded("Sd"), 70000, true);
        group(Studios.loaded("Sd"), 70001, false);
    }

    private static void comparesSeats() {
        DanceFloors x = Studios.loaded("Sf100012t085ddddddddddddc310000c310001");
        for (int d = 0; d < 12; d++) {
            group(x, 80000 + d, true);
            group(x, 80001 + d, false);
            x.enter(d, 0);
        }
        group(x, 80012, true);
        group(x, 80013, false);
        group(x, 80099, false);
        group(x, 81000, true);
        group(x, 81001, false);
        group(x, 82000, false);
        group(Studios.full(), 89000, true);
        group(new DanceFloors(), 80000, false);
    }

    private static void comparesClassesHeld() {
        DanceFloors x = Studios.loaded("Sf100009t085dc310000e000");
        x.tune(0, 1);
        Studios.passes(x, 0, 9);
        for (int held = 0; held <= 99; held++) {
            group(x, 90000 + held, true);
            if (held < 99) {
                group(x, 90001 + held, false);
            }
            if (held == 89) {
                x.pass(0);
            }
            x.weeks(1);
        }
        x.pass(0);
        x.weeks(9);
        Checks.due("held", 109, () -> x.about(9));
        group(x, 90099, true);
        group(x, 90000, true);
    }

    /** Of each command each place at which a 0 is written, with each other digit there. */
    private static void wrongDigitsFail() {
        int[] right = {11100, 20000, 30001, 40000, 50000, 60001, 70009, 80002, 90001};
        int[][] zeros = {{10, 1}, {10, 1}, {1000, 100, 10}, {100, 10, 1}, {100, 10, 1}, {100, 10}, {100}, {100},
            {1000, 100}};
        for (int i = 0; i < right.length; i++) {
            DanceFloors x = Studios.loaded("Sf100009t085dddddddddddp00p01c310000c310001e000e010w1");
            group(x, right[i], true);
            for (int place : zeros[i]) {
                for (int digit = 1; digit <= 9; digit++) {
                    group(x, right[i] + digit * place, false);
                }
            }
        }
        group(new DanceFloors(), 0, false);
        group(new DanceFloors(), 1, false);
        group(new DanceFloors(), 9999, false);
    }

    private static void countsDigitsOfTheNumber() {
        DanceFloors x = new DanceFloors();
        x.dancer();
        script(x, 1, 0L, 0);
        script(x, 1, 99999L, 0);
        script(x, 2, 0L, 0);
        script(x, 2, 99999_99999L, 0);
        script(x, 2, 60001_99999L, 1);
        script(x, 3, 0L, 0);
        script(x, 3, 99999_99999_99999L, 0);
        script(x, 3, 60001_60001_99999L, 2);
        script(x, 2, 60001L, 0);
        script(x, 3, 60001_60001L, 0);
        long[] first = {100000L, 100000_00000L, 100000_00000_00000L};
        for (int n = 1; n <= 3; n++) {
            int commands = n;
            for (long over : new long[] {first[n - 1], first[n - 1] + 60001, Long.MAX_VALUE, -1L, Long.MIN_VALUE}) {
                Checks.same("runScript(" + n + ", " + over + ")", "throws.IllegalArgumentException",
                        Checks.answerOf(() -> x.runScript(commands, over)));
            }
        }
        for (int n : new int[] {0, 4, -1, Integer.MIN_VALUE, Integer.MAX_VALUE}) {
            Checks.same("runScript(" + n + ", 60001)", "throws.IllegalArgumentException",
                    Checks.answerOf(() -> x.runScript(n, 60001L)));
        }
    }

    /** 60001 succeeds, 60002 fails: all scripts of one to three such commands. */
    private static void firstThatFailsIsTold() {
        DanceFloors x = Studios.loaded("Sd");
        for (int n = 1; n <= 3; n++) {
            for (int fails = 0; fails < 1 << n; fails++) {
                long script = 0;
                for (int i = 0; i < n; i++) {
                    script = script * 100000 + 60001 + (fails >> i & 1);
                }
                script(x, n, script, fails == 0 ? NONE : Integer.numberOfTrailingZeros(fails));
            }
        }
    }

    private static void laterCommandsSeeWhatEarlierDid() {
        DanceFloors x = Studios.loaded("Sf100001f100009t085t085dddp00p01c310000c311100c320001e000e010");
        script(x, 2, 20000_11000L, NONE);
        script(x, 2, 50000_80001L, 1);
        x.tune(0, 1);
        script(x, 2, 30009_90010L, 1);
        script(x, 3, 11100_30009_90018L, NONE);
        script(x, 3, 11100_30009_90019L, 2);
        DanceFloors y = Studios.loaded("Sf100009t085ddp00p01c310000c330001e000e010");
        y.tune(1, 2);
        script(y, 3, 30002_60002_10100L, NONE);
        script(y, 3, 30001_60002_10100L, 1);
        script(y, 2, 30001_10100L, 1);
        script(y, 2, 10100_30002L, 0);
        script(y, 3, 30002_70008_70009L, 2);
        script(y, 3, 50001_50000_50000L, 0);
    }

    private static void stateStaysAsItWas() {
        long[] scripts = {12000_30009_50001L, 12000_20000_30001L, 42000_42000_50000L, 12000_12000_12000L,
            50000_51000_30009L};
        for (long script : scripts) {
            DanceFloors x = danced();
            Checks.answerOf(() -> x.runScript(3, script));
            Checks.same("what there is behind the script " + script, Studios.look(danced()), Studios.look(x));
            Checks.due("undo() behind the script " + script, 1, x::undo);
            Checks.due("weeks behind undo()", 0, () -> x.about(4));
        }
    }

    /** Two actions on a studio in which both dancers rise in the first week. */
    private static DanceFloors danced() {
        DanceFloors x = Studios.loaded("Sf100009t085dddp00p01c310000c310001e000e010");
        x.tune(1, 1);
        x.weeks(1);
        return x;
    }
}
