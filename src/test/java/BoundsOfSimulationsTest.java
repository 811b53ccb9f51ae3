/**
 * Promise 30: each kind of turn with what it is given, the turns that are left out, and what is told of them.
 * A seed is found from the turn that it is to begin with, as x is replaced by what can be reckoned back.
 */
public final class BoundsOfSimulationsTest {
    private interface Turn {
        long call();
    }

    private static final long FACTOR = 6364136223846793005L;
    private static final long STEP = 1442695040888963407L;
    private static final int MOST_OF_Q = (1 << 27) - 1;
    private static final int[] SOME_Q = {0, 1, 2, 3, 8, 9, 11, 12, 15, 16, 31, 32, 79, 127, 128, 159, 160, 255, 256,
        1023, 1024, 4095, 4096, 7807, 7808, 8191, 8192, 245759, 245760, 1 << 20, 12345678, 98765432, MOST_OF_Q - 1,
        MOST_OF_Q};

    /** Two floors, two teachers, three dancers, two with passes, three classes, two seats. */
    private static final String SMALL = "Sf924020f110002t155t083dddp00p01c310000c321112c310001e000e010";

    public static void main(String[] args) {
        seedsAreReckonedBack();
        everyKindOfTurnAlone();
        everyKindOfTurnWithOneBehindIt();
        setsAndRefuses();
        entersAndRefuses();
        leavesOrDropsOrNeither();
        leavingThatThrowsDropsNothing();
        kindsFourteenAndFifteenAreWeeks();
        lastBitOfQChoosesOneOrTwoWeeks();
        turnsOfFullStudiosAreLeftOut();
        addsFloorTeacherAndDancer();
        givesPassesBelowNinety();
        tellsUsesOfTheTurnsAlone();
        tellsSeatsModuloOneHundred();
        oneToOneHundredTurns();
        everyLongIsASeed();
        Checks.end();
    }

    private static long factorBack() {
        long inverse = FACTOR;
        for (int i = 0; i < 6; i++) {
            inverse *= 2 - FACTOR * inverse;
        }
        return inverse;
    }

    /** The seed whose first turn has this kind and this q; low chooses among those. */
    private static long seedOf(int kind, int q, long low) {
        return (((long) (16 * q + kind) << 33) + low - STEP) * factorBack();
    }

    private static int r(long x) {
        return (int) (x >>> 33);
    }

    private static void seedsAreReckonedBack() {
        for (int kind = 0; kind < 16; kind++) {
            for (int q : SOME_Q) {
                int r = r(seedOf(kind, q, 77) * FACTOR + STEP);
                Checks.same("kind of the first turn", kind, r % 16);
                Checks.same("q of the first turn", q, r / 16);
            }
        }
    }

    private static void simulates(String text, long seed, int m, long due) {
        DanceFloors x = Studios.loaded(text);
        Checks.due("simulate(" + seed + ", " + m + ") of " + text, due, () -> x.simulate(seed, m));
    }

    /** The same turns, as calls of the face. */
    private static void simulatesAsCalls(String text, long seed, int m) {
        DanceFloors x = Studios.loaded(text);
        long before = x.about(7);
        long state = seed;
        for (int i = 0; i < m; i++) {
            state = state * FACTOR + STEP;
            turn(x, r(state) % 16, r(state) / 16);
        }
        simulates(text, seed, m, 10000 * (x.about(7) - before) + 100 * x.about(2) + x.about(5) % 100);
    }

    private static void turn(DanceFloors x, int kind, int q) {
        switch (kind) {
            case 0 -> call(() -> x.floor(1 + q % 9, q / 16 % 5, q / 128 % 61, 1 + q / 8192 % 30));
            case 1 -> call(() -> x.teacher(q % 16, 1 + q / 16 % 5));
            case 2, 3, 4, 5 ->
                    call(() -> x.set(q % 4, 1 + q / 4 % 5, q / 32 % 4, q / 128 % 5, q / 1024 % 6, q / 8192 % 6));
            case 6 -> call(x::dancer);
            case 7, 8 -> call(() -> x.pass(q % 12));
            case 9, 10, 11, 12 -> call(() -> x.enter(q % 12, q / 16 % 10));
            case 13 -> {
                if (q / 256 % 4 == 0) {
                    call(() -> x.leave(q % 12, q / 16 % 10));
                } else if (q / 1024 % 4 == 0) {
                    call(() -> x.drop(q % 10));
                }
            }
            default -> call(() -> x.weeks(1 + q % 2));
        }
    }

    private static void call(Turn turn) {
        try {
            turn.call();
        } catch (IndexOutOfBoundsException | IllegalArgumentException | IllegalStateException e) {
            // What would throw an exception is left out.
        }
    }

    private static void everyKindOfTurnAlone() {
        for (int kind = 0; kind < 16; kind++) {
            for (int q : SOME_Q) {
                simulatesAsCalls("S", seedOf(kind, q, q), 1);
                simulatesAsCalls(SMALL, seedOf(kind, q, q), 1);
            }
        }
    }

    private static void everyKindOfTurnWithOneBehindIt() {
        for (int kind = 0; kind < 16; kind++) {
            for (int q : SOME_Q) {
                for (long low = 0; low < 40; low++) {
                    simulatesAsCalls(SMALL, seedOf(kind, q, low * 123457), 2);
                }
            }
        }
    }

    /** The first q from here on that is this class for turns of the kinds 2 to 5. */
    private static int qOfClass(int from, int style, int level, int f, int t, int day, int hour) {
        int q = from;
        while (q % 4 != style || q / 4 % 5 != level - 1 || q / 32 % 4 != f || q / 128 % 5 != t
                || q / 1024 % 6 != day || q / 8192 % 6 != hour) {
            q++;
        }
        return q;
    }

    private static void setsAndRefuses() {
        String text = "Sf924020f124020t154c310000";
        for (int kind = 2; kind <= 5; kind++) {
            for (int from : new int[] {0, 49152, 100000000}) {
                simulates(text, seedOf(kind, qOfClass(from, 3, 1, 0, 0, 0, 1), 0), 1, 200);
                simulates(text, seedOf(kind, qOfClass(from, 3, 1, 0, 0, 1, 0), 0), 1, 200);
                simulates(text, seedOf(kind, qOfClass(from, 3, 1, 0, 0, 5, 5), 0), 1, 200);
                simulates(text, seedOf(kind, qOfClass(from, 3, 4, 1, 0, 5, 5), 0), 1, 200);
                simulates(text, seedOf(kind, qOfClass(from, 2, 4, 0, 0, 5, 5), 0), 1, 200);
                simulates(text, seedOf(kind, qOfClass(from, 1, 4, 1, 0, 5, 5), 0), 1, 200);
                simulates(text, seedOf(kind, qOfClass(from, 0, 4, 0, 0, 5, 5), 0), 1, 200);
                simulates(text, seedOf(kind, qOfClass(from, 3, 1, 0, 0, 0, 0), 0), 1, 100);
                simulates(text, seedOf(kind, qOfClass(from, 3, 1, 1, 0, 0, 0), 0), 1, 100);
                simulates(text, seedOf(kind, qOfClass(from, 3, 5, 0, 0, 5, 5), 0), 1, 100);
                simulates(text, seedOf(kind, qOfClass(from, 1, 1, 0, 0, 5, 5), 0), 1, 100);
                simulates(text, seedOf(kind, qOfClass(from, 0, 1, 1, 0, 5, 5), 0), 1, 100);
                simulates(text, seedOf(kind, qOfClass(from, 3, 1, 2, 0, 5, 5), 0), 1, 100);
                simulates(text, seedOf(kind, qOfClass(from, 3, 1, 0, 1, 5, 5), 0), 1, 100);
            }
        }
    }

    private static void entersAndRefuses() {
        String text = "Sf100001f100009t085t085ddddddddddddc310000c311100e000";
        for (int kind = 9; kind <= 12; kind++) {
            simulates(text, seedOf(kind, 0, 0), 1, 201);
            simulates(text, seedOf(kind, 1, 0), 1, 201);
            simulates(text, seedOf(kind, 16, 0), 1, 202);
            simulates(text, seedOf(kind, 16 + 7, 0), 1, 202);
            simulates(text, seedOf(kind, 16 + 8, 0), 1, 201);
            simulates(text, seedOf(kind, 16 + 9, 0), 1, 202);
            simulates(text, seedOf(kind, 16 * 2, 0), 1, 201);
            simulates(text, seedOf(kind, 16 * 9, 0), 1, 201);
            simulates(text, seedOf(kind, 16 * 10, 0), 1, 201);
            simulates(text, seedOf(kind, 16 * 11, 0), 1, 202);
            simulates(text, seedOf(kind, 16 * 21 + 4, 0), 1, 202);
            simulates(text, seedOf(kind, 16 * 22 + 4, 0), 1, 201);
        }
    }

    /** q / 256 % 4 is 0 below 256, and again from 1024; q / 1024 % 4 is 0 below 1024, and again from 4096. */
    private static void leavesOrDropsOrNeither() {
        String text = "Sf100009t085ddddddddddddc310000c310001e000e011e020";
        simulates(text, seedOf(13, 0, 0), 1, 202);
        simulates(text, seedOf(13, 255, 0), 1, 203);
        simulates(text, seedOf(13, 256 + 4, 0), 1, 101);
        simulates(text, seedOf(13, 256 + 5, 0), 1, 102);
        simulates(text, seedOf(13, 256 + 6, 0), 1, 203);
        simulates(text, seedOf(13, 1020, 0), 1, 101);
        simulates(text, seedOf(13, 1024 + 8, 0), 1, 203);
        simulates(text, seedOf(13, 1120, 0), 1, 203);
        simulates(text, seedOf(13, 1280, 0), 1, 203);
        simulates(text, seedOf(13, 1300, 0), 1, 203);
        simulates(text, seedOf(13, 4090, 0), 1, 203);
        simulates(text, seedOf(13, 4096 + 254, 0), 1, 203);
        simulates(text, seedOf(13, 4096 + 256 + 8, 0), 1, 101);
    }

    private static void leavingThatThrowsDropsNothing() {
        String text = "Sf100009t085dc310000";
        simulates(text, seedOf(13, 0, 0), 1, 100);
        simulates(text, seedOf(13, 240, 0), 1, 100);
        simulates(text, seedOf(13, 256 + 4, 0), 1, 0);
    }

    private static void kindsFourteenAndFifteenAreWeeks() {
        for (int kind = 0; kind < 16; kind++) {
            simulates("Sf100009t085ddp00p01c310000e000e010", seedOf(kind, 256 + 5, 0), 1, kind >= 14 ? 40102 : 102);
        }
    }

    private static void lastBitOfQChoosesOneOrTwoWeeks() {
        String text = "Sf100009t085ddp00p01c310000e000e010";
        for (int q : SOME_Q) {
            simulates(text, seedOf(14, q, 0), 1, q % 2 == 0 ? 20102 : 40102);
            simulates(text, seedOf(15, q, 0), 1, q % 2 == 0 ? 20102 : 40102);
        }
    }

    /** Nothing can be added to a full studio, and what is behind such a turn is done all the same. */
    private static void turnsOfFullStudiosAreLeftOut() {
        for (int kind = 0; kind <= 6; kind++) {
            for (int q : SOME_Q) {
                DanceFloors x = Studios.full();
                int k = kind;
                Checks.due("simulate() of kind " + kind + " with all there can be", 1002,
                        () -> x.simulate(seedOf(k, q, 0), 1));
                long seed = followedByWeek(kind, q);
                Checks.due("simulate() of kind " + kind + " and a week", 21002, () -> x.simulate(seed, 2));
            }
        }
    }

    private static long followedByWeek(int kind, int q) {
        for (long low = 0; low < 1000000; low++) {
            long x = seedOf(kind, q, low) * FACTOR + STEP;
            int second = r(x * FACTOR + STEP);
            if (second % 16 >= 14 && second / 16 % 2 == 0) {
                return seedOf(kind, q, low);
            }
        }
        return 0;
    }

    /** A turn, and behind it one of kind 2 to 5 (or 9 to 12) with this q modulo what is asked of it. */
    private static long followedBy(int kind, int q, int least, int most, int modulo, int rest) {
        for (long low = 0; low < 10000000; low++) {
            long x = seedOf(kind, q, low) * FACTOR + STEP;
            int second = r(x * FACTOR + STEP);
            int itsKind = second % 16;
            if (itsKind >= least && itsKind <= most && second / 16 % modulo == rest) {
                return seedOf(kind, q, low);
            }
        }
        return 0;
    }

    private static void addsFloorTeacherAndDancer() {
        int roundsOnFloorZeroByTeacherZero = 3;
        simulates("St085", followedBy(0, 0, 2, 5, 640, roundsOnFloorZeroByTeacherZero), 2, 100);
        simulates("Sf100009", followedBy(1, 8 + 16 * 4, 2, 5, 640, roundsOnFloorZeroByTeacherZero), 2, 100);
        simulates("Sf100009", followedBy(1, 7 + 16 * 4, 2, 5, 640, roundsOnFloorZeroByTeacherZero), 2, 0);
        simulates("Sf100009t085", followedBy(6, 0, 2, 5, 640, roundsOnFloorZeroByTeacherZero), 2, 100);
        simulates("Sf100009t085c310000", followedBy(6, 0, 9, 12, 480, 0), 2, 101);
        simulates("Sf100009t085c310000dddddddddd", followedBy(6, 0, 9, 12, 480, 10), 2, 101);
        simulates("Sf100009t085c310000ddddddddddd", followedBy(6, 0, 9, 12, 480, 11), 2, 101);
        simulates("Sf100009t085c310000dddddddddd", followedBy(6, 0, 9, 12, 480, 11), 2, 100);
    }

    /** Behind a pass() for dancer 0 two weeks go by: with 90 uses left there is none, and nothing else changes. */
    private static void givesPassesBelowNinety() {
        for (int kind = 7; kind <= 8; kind++) {
            simulates("Sf100009t085ddp01c310000e000e010", followedBy(kind, 0, 14, 15, 2, 1), 2, 40102);
            simulates("Sf100009t085ddp01c310000e000e010", followedBy(kind, 24, 14, 15, 2, 1), 2, 40102);
            simulates("Sf100009t085ddp01c310000e000e010", followedBy(kind, 1, 14, 15, 2, 1), 2, 102);
            simulates("Sf100009t085ddp01c310000e000e010", followedBy(kind, 11, 14, 15, 2, 1), 2, 102);
            simulates("Sf100009t085ddp01p00p00p00p00p00p00p00p00p00c310000e000e010",
                    followedBy(kind, 0, 14, 15, 2, 1), 2, 40102);
        }
    }

    private static void tellsUsesOfTheTurnsAlone() {
        simulates("Sf100009t085ddp00p01c310000e000e010w9", seedOf(14, 1, 0), 1, 20102);
        simulates("Sf100009t085ddp00p01c310000e000e010w9", seedOf(0, 1, 0), 1, 102);
        simulates("Sf100009t085ddp00p01c310000e000e010w9x0", seedOf(14, 1, 0), 1, 0);
        simulates("S", seedOf(14, 1, 0), 1, 0);
    }

    private static void tellsSeatsModuloOneHundred() {
        DanceFloors x = Studios.loaded("Sf100030t085dddddddddddd");
        for (int k = 0; k < 10; k++) {
            x.set(3, 1, 0, 0, k / 6, k % 6);
        }
        for (int seats = 0; seats <= 120; seats++) {
            int due = 1000 + seats % 100;
            Checks.due("simulate() with " + seats + " seats", due, () -> x.simulate(seedOf(6, 0, 0), 1));
            if (seats < 120) {
                x.enter(seats % 12, seats / 12);
            }
        }
    }

    private static void oneToOneHundredTurns() {
        for (int m = 1; m <= 100; m++) {
            simulatesAsCalls("S", 4711, m);
            simulatesAsCalls(SMALL, -4711, m);
        }
        DanceFloors x = Studios.loaded(SMALL);
        for (int m : new int[] {0, 101, -1, Integer.MIN_VALUE, Integer.MAX_VALUE}) {
            Checks.same("simulate(4711, " + m + ")", "throws.IllegalArgumentException",
                    Checks.answerOf(() -> x.simulate(4711, m)));
        }
    }

    private static void everyLongIsASeed() {
        long[] seeds = {Long.MIN_VALUE, Long.MIN_VALUE + 1, Long.MAX_VALUE, -1, 0, 1, 1L << 32, 1L << 33, -(1L << 33),
            STEP, FACTOR, seedOf(0, 0, 0), seedOf(15, MOST_OF_Q, (1L << 33) - 1)};
        for (long seed : seeds) {
            simulatesAsCalls("S", seed, 100);
            simulatesAsCalls(SMALL, seed, 100);
        }
    }
}
