/** Promise 5 and TEXT: which commands are done, which are left out, and what load() leaves behind. */
public final class BoundsOfLoadTest {
    private static final String CLASSES = "c310000c310001c310002c310003c310004c310005c310010c310011c310012";

    public static void main(String[] args) {
        leavesOutTheFifthFloor();
        leavesOutTheSixthTeacher();
        leavesOutTheThirteenthDancer();
        leavesOutTheEleventhClass();
        leavesOutClassesWithoutFloorOrTeacher();
        leavesOutClassesForEachReason();
        leavesOutPasses();
        leavesOutSeatsThatDoNotExist();
        leavesOutSeatsForEachReason();
        leavesOutLeaving();
        leavesOutDropping();
        leavesOutNoWeeks();
        countsEachThatIsLeftOut();
        leftOutChangesNothing();
        beginsAsNew();
        isNoAction();
        throwsForEachTextThatIsNoStudio();
        Checks.end();
    }

    private static void load(String text, int due) {
        DanceFloors x = new DanceFloors();
        Studios.type(x, text);
        Checks.due("load() of " + text, due, x::load);
        Checks.due("refused behind " + text, 0, () -> x.about(11));
        Checks.due("length of the text behind " + text, text.length(), x::clearText);
    }

    private static void leavesOutTheFifthFloor() {
        load("S" + "f100001".repeat(4), 0);
        load("S" + "f100001".repeat(5), 1);
    }

    private static void leavesOutTheSixthTeacher() {
        load("S" + "t151".repeat(5), 0);
        load("S" + "t151".repeat(6), 1);
    }

    private static void leavesOutTheThirteenthDancer() {
        load("S" + "d".repeat(12), 0);
        load("S" + "d".repeat(13), 1);
    }

    private static void leavesOutTheEleventhClass() {
        load("Sf100001t151" + CLASSES + "c310013", 0);
        load("Sf100001t151" + CLASSES + "c310013c310014", 1);
        load("Sf100001t151" + CLASSES + "c310013x0c310014", 0);
    }

    private static void leavesOutClassesWithoutFloorOrTeacher() {
        load("St151c310000", 1);
        load("Sf100001c310000", 1);
        load("Sf100001t151c310000", 0);
        load("Sf100001t151c311000", 1);
        load("Sf100001t151c310100", 1);
        load("Sf100001f100001t151t151c311100", 0);
        load("Sc310000f100001t151c310000", 1);
    }

    private static void leavesOutClassesForEachReason() {
        load("Sf100001t151t151c310000c310100", 1);
        load("Sf100001f100001t151c310000c311000", 1);
        load("Sf100001t151c320000", 1);
        load("Sf310601t155c010000", 1);
        load("Sf410501t155c010000", 1);
        load("Sf400801t155c020000", 1);
        load("Sf410801t155c020000", 0);
    }

    private static void leavesOutPasses() {
        load("Sp00", 1);
        load("Sdp00", 0);
        load("Sdp01", 1);
        load("S" + "d".repeat(12) + "p11", 0);
        load("S" + "d".repeat(11) + "p11", 1);
        load("Sd" + "p00".repeat(9), 0);
        load("Sd" + "p00".repeat(10), 1);
        load("Sddf100002t151c310000e000e010p01" + "p00".repeat(9) + "w1p00", 0);
    }

    private static void leavesOutSeatsThatDoNotExist() {
        String studio = "Sf100009t151dc310000";
        load(studio + "e000", 0);
        load(studio + "e010", 1);
        load(studio + "e001", 1);
        load("Sf100009t151c310000e000", 1);
        load("Sde000", 1);
    }

    private static void leavesOutSeatsForEachReason() {
        load("Sf100009t151dc310000e000e000", 1);
        load("Sf100009t155dc330000e000", 1);
        load("Sf100009t155dc320000e000", 0);
        load("Sf100009f100009t151t151dc310000c311100e000e001", 1);
        load("Sf100001t151ddc310000e000e010", 1);
    }

    private static void leavesOutLeaving() {
        String studio = "Sf100009t151ddc310000e000";
        load(studio + "l000", 0);
        load(studio + "l010", 1);
        load(studio + "l020", 1);
        load(studio + "l001", 1);
        load(studio + "l000l000", 1);
    }

    private static void leavesOutDropping() {
        load("Sx0", 1);
        load("Sf100009t151c310000x0", 0);
        load("Sf100009t151c310000x1", 1);
        load("Sf100009t151c310000x0x0", 1);
        load("Sf100001t151" + CLASSES + "x9", 1);
        load("Sf100001t151" + CLASSES + "c310013x9", 0);
    }

    private static void leavesOutNoWeeks() {
        load("Sw1w9", 0);
        Checks.due("weeks of w1w9", 10, () -> Studios.loaded("Sw1w9").about(4));
    }

    private static void countsEachThatIsLeftOut() {
        load("S", 0);
        load("Sp00", 1);
        load("Sp00e000l000x0c310000", 5);
        load("S" + "x0".repeat(59), 59);
    }

    private static void leftOutChangesNothing() {
        String studio = "Sf100001t151ddc310000e000p00";
        String due = Studios.look(Studios.loaded(studio));
        for (String command : new String[] {"c310000", "c311000", "c320001", "p02", "e000", "e010", "e001", "l010",
            "l001", "x1"}) {
            DanceFloors x = Studios.loaded(studio + command);
            Checks.same("what there is behind " + studio + command, due, Studios.look(x));
        }
    }

    private static void beginsAsNew() {
        DanceFloors x = Studios.full();
        x.enter(0, 0);
        x.tune(0, 9);
        x.tune(1, 50);
        Studios.type(x, "S");
        Checks.due("load() of S", 0, x::load);
        DanceFloors y = new DanceFloors();
        y.append('S');
        Checks.same("what there is behind load() of S", Studios.look(y), Studios.look(x));
        Checks.due("the first dancer behind it", 0, x::dancer);
        Checks.due("the first floor behind it", 0, () -> x.floor(1, 0, 0, 9));
        Checks.due("the first teacher behind it", 0, () -> x.teacher(8, 1));
        Checks.due("a class behind it", 0, () -> x.set(3, 1, 0, 0, 0, 0));
        Checks.due("dancer 0 has no steps", 0, () -> x.dancerOf(0, 1));
        Checks.due("dancer 0 has no uses left", 0, () -> x.dancerOf(0, 2));
        Checks.due("dancer 0 has had no passes", 0, () -> x.dancerOf(0, 4));
        Checks.due("class 0 was never held", 0, () -> x.classOf(0, 8));
        Checks.due("class 0 has no uses", 0, () -> x.classOf(0, 9));
        Checks.due("class 0 has no seats", 0, () -> x.classOf(0, 7));
    }

    private static void isNoAction() {
        DanceFloors x = Studios.loaded("Sdddw9");
        Checks.same("undo() behind load()", "throws.IllegalStateException", Checks.answerOf(x::undo));
        x.dancer();
        x.load();
        Checks.same("undo() behind an action and load()", "throws.IllegalStateException", Checks.answerOf(x::undo));
        x.save(0);
        x.save(1);
        x.load();
        for (int slot = 0; slot < 2; slot++) {
            int i = slot;
            Checks.same("restore(" + i + ") behind load()", "throws.IllegalStateException",
                    Checks.answerOf(() -> x.restore(i)));
        }
        x.save(1);
        Checks.due("restore(1) of what was saved since", 9, () -> x.restore(1));
    }

    private static void throwsForEachTextThatIsNoStudio() {
        for (String text : new String[] {"", "d", "s", "Sw", "Sw0", "Sd ", "S" + "d".repeat(118) + "w"}) {
            DanceFloors x = new DanceFloors();
            x.weeks(5);
            x.save(1);
            x.weeks(2);
            Studios.type(x, text);
            Checks.same("load() of " + text, "throws.IllegalStateException", Checks.answerOf(x::load));
            Checks.due("weeks behind it", 7, () -> x.about(4));
            Checks.due("undo() behind it", 1, x::undo);
            Checks.due("restore(1) behind it", 5, () -> x.restore(1));
            Checks.due("length of the text behind it", text.length(), x::clearText);
        }
    }
}
