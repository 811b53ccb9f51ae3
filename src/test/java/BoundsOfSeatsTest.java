/** DANCERS, and promises 17 to 20 and 25: passes of ten, and seats that are taken, refused and left. */
public final class BoundsOfSeatsTest {
    public static void main(String[] args) {
        twelveDancersComeAsBeginners();
        passHasTenUses();
        passNeedsFewerThanNinety();
        passesOfOthersDoNotMatter();
        levelMayBeOneAbove();
        levelCountsFromTheDancersOwn();
        tellsTheFirstOfAllReasons();
        hourCountsOnThisDayAlone();
        seatsAreTakenUpToTheLast();
        refusalsAreCounted();
        leavesUpToTheLast();
        seatsGoWithTheClass();
        fillsAllSeats();
        Checks.end();
    }

    private static void twelveDancersComeAsBeginners() {
        DanceFloors x = new DanceFloors();
        long[] due = {1, 0, 0, 0, 0, 0};
        for (int i = 0; i < 12; i++) {
            int d = i;
            Checks.same("dancerOf() before dancer " + d, "throws.IndexOutOfBoundsException",
                    Checks.answerOf(() -> x.dancerOf(d, 0)));
            Checks.due("dancer()", d, x::dancer);
            for (int what = 0; what < 6; what++) {
                int number = what;
                Checks.due("dancerOf(" + d + ", " + what + ")", due[what], () -> x.dancerOf(d, number));
            }
        }
        Checks.same("a thirteenth", "throws.IllegalStateException", Checks.answerOf(x::dancer));
        Checks.due("dancers", 12, () -> x.about(3));
    }

    private static void passHasTenUses() {
        DanceFloors x = new DanceFloors();
        x.dancer();
        for (int n = 1; n <= 9; n++) {
            Checks.due("pass(0)", 10 * n, () -> x.pass(0));
            Checks.due("left", 10 * n, () -> x.dancerOf(0, 2));
            Checks.due("passes", n, () -> x.dancerOf(0, 4));
            Checks.due("uses so far", 0, () -> x.dancerOf(0, 3));
            Checks.due("passes of all", n, () -> x.about(6));
            Checks.due("left of all", 10 * n, () -> x.about(8));
        }
    }

    /** With 88, 89 and 90 left: dancers 0, 1 and 2 have had nine passes, and danced two weeks, one, and none. */
    private static void passNeedsFewerThanNinety() {
        DanceFloors x = Studios.loaded("Sf100009t151dddc310000c310001e000e001e010");
        x.tune(0, 1);
        for (int d = 0; d < 3; d++) {
            Studios.passes(x, d, 9);
        }
        x.weeks(1);
        Checks.due("left of dancer 0", 88, () -> x.dancerOf(0, 2));
        Checks.due("left of dancer 1", 89, () -> x.dancerOf(1, 2));
        Checks.due("left of dancer 2", 90, () -> x.dancerOf(2, 2));
        Checks.due("pass() with 88 left", 98, () -> x.pass(0));
        Checks.due("pass() with 89 left", 99, () -> x.pass(1));
        Checks.same("pass() with 90 left", "throws.IllegalStateException", Checks.answerOf(() -> x.pass(2)));
        Checks.same("pass() with 98 left", "throws.IllegalStateException", Checks.answerOf(() -> x.pass(0)));
        Checks.same("pass() with 99 left", "throws.IllegalStateException", Checks.answerOf(() -> x.pass(1)));
        Checks.due("left of dancer 2 then", 90, () -> x.dancerOf(2, 2));
        Checks.due("passes", 29, () -> x.about(6));
        Checks.due("passes of dancer 2", 9, () -> x.dancerOf(2, 4));
        Checks.due("uses of dancer 0", 2, () -> x.dancerOf(0, 3));
    }

    private static void passesOfOthersDoNotMatter() {
        DanceFloors x = new DanceFloors();
        x.dancer();
        x.dancer();
        Studios.passes(x, 0, 9);
        Checks.due("pass(1)", 10, () -> x.pass(1));
        Checks.due("left of dancer 0", 90, () -> x.dancerOf(0, 2));
        Checks.due("left of all", 100, () -> x.about(8));
    }

    private static void levelMayBeOneAbove() {
        DanceFloors x = Studios.loaded("Sf100009t085dc310000c320001c330002c340003c350004");
        int[] due = {0, 0, 2, 2, 2};
        for (int k = 0; k < 5; k++) {
            int lesson = k;
            Checks.due("whySeat() in a class of level " + (1 + k), due[k], () -> x.whySeat(0, lesson));
            Checks.due("enter() in a class of level " + (1 + k), due[k], () -> x.enter(0, lesson));
        }
        Checks.due("seats", 2, () -> x.dancerOf(0, 5));
    }

    /** Dancer 0 rises week by week; the seats of the levels below are open to all levels. */
    private static void levelCountsFromTheDancersOwn() {
        DanceFloors x = Studios.loaded("Sf100009t085dp00c310000c310001c320002c330003c340004c350005e000");
        x.tune(0, 1);
        x.tune(1, 1);
        for (int level = 1; level <= 5; level++) {
            Checks.due("level", level, () -> x.dancerOf(0, 0));
            for (int of = 1; of <= 5; of++) {
                int lesson = of;
                Checks.due("whySeat() of level " + of + " for level " + level, of > level + 1 ? 2 : 0,
                        () -> x.whySeat(0, lesson));
            }
            x.weeks(1);
        }
    }

    /**
     * All sets of reasons 1 to 4 that can be so at once (who has the seat was of the level, and has no other at
     * this hour). Class 0 takes one dancer; class 1 is on another floor at the same hour.
     */
    private static void tellsTheFirstOfAllReasons() {
        for (boolean tooHigh : new boolean[] {false, true}) {
            for (boolean atThisHour : new boolean[] {false, true}) {
                for (boolean isFull : new boolean[] {false, true}) {
                    int due = tooHigh ? 2 : atThisHour ? 3 : isFull ? 4 : 0;
                    tellsTheFirst(tooHigh, atThisHour, isFull, due);
                }
            }
        }
        DanceFloors x = Studios.loaded("Sf100001f100009t085ddc310000e000");
        Checks.due("whySeat() of one who has the last seat", 1, () -> x.whySeat(0, 0));
        Checks.due("whySeat() of another", 4, () -> x.whySeat(1, 0));
        DanceFloors y = Studios.loaded("Sf100002f100009t085ddc310000e000");
        Checks.due("whySeat() of one who has a seat", 1, () -> y.whySeat(0, 0));
        Checks.due("enter() of one who has a seat", 1, () -> y.enter(0, 0));
        Checks.due("seats", 1, () -> y.about(5));
    }

    private static void tellsTheFirst(boolean tooHigh, boolean atThisHour, boolean isFull, int due) {
        String level = tooHigh ? "3" : "2";
        // Dancer 1 rises to level 2 by a class that is dropped, and so may fill a class of level 3.
        DanceFloors x = Studios.loaded("Sf100001f100009t085t085ddp01c310045e010");
        x.tune(0, 1);
        x.tune(1, 1);
        x.weeks(1);
        x.drop(0);
        x.set(3, tooHigh ? 3 : 2, 0, 0, 2, 3);
        x.set(3, 1, 1, 1, 2, 3);
        if (isFull) {
            x.enter(1, 0);
        }
        if (atThisHour) {
            x.enter(0, 1);
        }
        String name = " of level " + level + (atThisHour ? ", hour in use" : "") + (isFull ? ", full" : "");
        Checks.due("seats" + name, (isFull ? 1 : 0) + (atThisHour ? 1 : 0), () -> x.about(5));
        Checks.due("whySeat()" + name, due, () -> x.whySeat(0, 0));
        Checks.due("enter()" + name, due, () -> x.enter(0, 0));
        Checks.due("refused" + name, due == 0 ? 0 : 1, () -> x.about(11));
    }

    private static void hourCountsOnThisDayAlone() {
        DanceFloors x = Studios.loaded("Sf100009f100009t085t085dc310023c311123c311124c311133c311132e000");
        Checks.due("the same day and hour", 3, () -> x.whySeat(0, 1));
        Checks.due("the same day, another hour", 0, () -> x.whySeat(0, 2));
        Checks.due("another day, the same hour", 0, () -> x.whySeat(0, 3));
        Checks.due("day and hour the other way", 0, () -> x.whySeat(0, 4));
        x.leave(0, 0);
        Checks.due("the same day and hour behind leave()", 0, () -> x.whySeat(0, 1));
        x.enter(0, 0);
        x.drop(0);
        Checks.due("the same day and hour behind drop()", 0, () -> x.whySeat(0, 0));
    }

    private static void seatsAreTakenUpToTheLast() {
        fills(3, 1, 0, 1);
        fills(3, 11, 0, 11);
        fills(3, 12, 0, 12);
        fills(1, 5, 0, 5);
        fills(0, 30, 7, 3);
        fills(0, 30, 8, 4);
        fills(0, 3, 60, 3);
    }

    private static void fills(int style, int places, int barre, int takes) {
        DanceFloors x = Studios.loaded("Sdddddddddddd");
        x.floor(5, 1, barre, places);
        x.teacher(15, 1);
        x.set(style, 1, 0, 0, 0, 0);
        for (int i = 0; i < 12; i++) {
            int d = i;
            int due = d < takes ? 0 : 4;
            String name = "(" + d + ", 0) of style " + style + " that takes " + takes;
            Checks.due("whySeat" + name, due, () -> x.whySeat(d, 0));
            Checks.due("enter" + name, due, () -> x.enter(d, 0));
            Checks.due("seats behind enter" + name, Math.min(d + 1, takes), () -> x.classOf(0, 7));
        }
        Checks.due("refused of style " + style + " that takes " + takes, 12 - takes, () -> x.about(11));
        Checks.due("leave() of a full class", takes - 1, () -> x.leave(0, 0));
        Checks.due("enter() of the seat that is free again", 0, () -> x.enter(takes - 1 == 0 ? 1 : 0, 0));
    }

    /** enter() counts a refusal, whySeat() does not, nor does a call that throws. */
    private static void refusalsAreCounted() {
        DanceFloors x = Studios.loaded("Sf100001t085dc310000c330001e000");
        Checks.due("enter() refused", 1, () -> x.enter(0, 0));
        Checks.due("refused", 1, () -> x.about(11));
        Checks.due("enter() refused", 2, () -> x.enter(0, 1));
        Checks.due("refused", 2, () -> x.about(11));
        x.whySeat(0, 0);
        Checks.answerOf(() -> x.enter(1, 0));
        Checks.answerOf(() -> x.enter(0, 2));
        x.leave(0, 0);
        x.enter(0, 0);
        Checks.due("refused still", 2, () -> x.about(11));
        x.set(3, 1, 0, 0, 0, 0);
        Checks.due("refused, of set() too", 3, () -> x.about(11));
    }

    private static void leavesUpToTheLast() {
        DanceFloors x = Studios.loaded("Sf100012t085ddddddddddddc310000c310001");
        for (int d = 0; d < 12; d++) {
            x.enter(d, 0);
        }
        x.enter(11, 1);
        for (int i = 0; i < 12; i++) {
            int d = i;
            Checks.due("leave(" + d + ", 0)", 11 - d, () -> x.leave(d, 0));
            Checks.same("leave(" + d + ", 0) again", "throws.IllegalStateException",
                    Checks.answerOf(() -> x.leave(d, 0)));
            Checks.due("seats behind it", 12 - d, () -> x.about(5));
        }
        Checks.due("the seat in the other class stays", 1, () -> x.dancerOf(11, 5));
        Checks.due("leave(11, 1)", 0, () -> x.leave(11, 1));
    }

    private static void seatsGoWithTheClass() {
        DanceFloors x = Studios.loaded("Sf100012t085dddc310000c310001c310002e000e010e020e001e012");
        Checks.due("drop() of three", 3, () -> x.drop(0));
        Checks.due("seats of dancer 0", 1, () -> x.dancerOf(0, 5));
        Checks.due("seats of dancer 2", 0, () -> x.dancerOf(2, 5));
        Checks.same("leave(2, 0)", "throws.IllegalStateException", Checks.answerOf(() -> x.leave(2, 0)));
        Checks.due("drop() of one", 1, () -> x.drop(1));
        Checks.due("drop() of one", 1, () -> x.drop(0));
        Checks.due("seats", 0, () -> x.about(5));
    }

    private static void fillsAllSeats() {
        DanceFloors x = Studios.loaded("Sf100012t085ddddddddddddc310000c310001c310002c310003c310004c310005"
                + "c310010c310011c310012c310013");
        for (int d = 0; d < 12; d++) {
            for (int k = 0; k < 10; k++) {
                x.enter(d, k);
            }
        }
        Checks.due("seats in all classes", 120, () -> x.about(5));
        Checks.due("seats of the last dancer", 10, () -> x.dancerOf(11, 5));
        Checks.due("seats in the last class", 12, () -> x.classOf(9, 7));
        Checks.due("refused", 0, () -> x.about(11));
    }
}
