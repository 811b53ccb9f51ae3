/** Promises 2 to 5: append, clearText, errorPosition, load. */
public final class TextTest {
    public static void main(String[] args) {
        appendsWithinBounds();
        clearsTheText();
        findsErrors();
        allowsWholeStudios();
        findsNumbersOutOfRange();
        loadsAStudio();
        doesEachCommand();
        leavesCommandsOut();
        loadForgetsAll();
        loadOfNoStudioChangesNothing();
        Checks.end();
    }

    private static void appendsWithinBounds() {
        DanceFloors x = new DanceFloors();
        Checks.due("append(0)", 1, () -> x.append(0));
        Checks.due("append(255)", 2, () -> x.append(255));
        Checks.dueArgument(x, "append(-1)", () -> x.append(-1));
        Checks.dueArgument(x, "append(256)", () -> x.append(256));
        Checks.dueArgument(x, "append(the letter S and 65536)", () -> x.append('S' + 65536));
        for (int length = 3; length <= 120; length++) {
            int due = length;
            Checks.due("append to " + length, due, () -> x.append('d'));
        }
        Checks.dueState(x, "append behind 120", () -> x.append('d'));
        Checks.dueArgument(x, "append of a wrong sign behind 120", () -> x.append(256));
        Checks.due("clearText()", 120, x::clearText);
        Checks.due("append again", 1, () -> x.append('d'));
    }

    private static void clearsTheText() {
        DanceFloors x = new DanceFloors();
        Studios.type(x, "Sd");
        Checks.due("clearText()", 2, x::clearText);
        Checks.due("clearText() again", 0, x::clearText);
        Checks.due("errorPosition()", 0, x::errorPosition);
        Checks.dueState(x, "undo()", x::undo);
    }

    private static void error(String text, int due) {
        DanceFloors x = new DanceFloors();
        Studios.type(x, text);
        Checks.due("errorPosition() of " + text, due, x::errorPosition);
    }

    private static void findsErrors() {
        error("", 0);
        error("s", 0);
        error("dS", 0);
        error("SS", 1);
        error("S d", 1);
        error("Sd ", 2);
        error("Sdz", 2);
        error("SD", 1);
        error("Sf", 2);
        error("Sf9460", 6);
        error("Sf94603", 7);
        error("Sw", 2);
        error("Swd", 2);
        error("Sddde00", 7);
        error("Sddde0", 6);
        error("Sp0d", 3);
        error("Sc0100005", 8);
        error("S" + (char) 255, 1);
    }

    private static void allowsWholeStudios() {
        int none = DanceFloors.NONE;
        error("S", none);
        error("Sd", none);
        error("Sf100001", none);
        error("Sf946030", none);
        error("Sf905910", none);
        error("St001", none);
        error("St155", none);
        error("St095", none);
        error("Sc010000", none);
        error("Sc353455", none);
        error("Sp00p09p10p11", none);
        error("Se000e119", none);
        error("Sl000l119", none);
        error("Sx0x9", none);
        error("Sw1w9", none);
        error("Sdf100001dt001dc010000dp00de000dl000dx0dw1d", none);
    }

    private static void findsNumbersOutOfRange() {
        error("Sf0", 2);
        error("Sf:", 2);
        error("Sf1:", 3);
        error("Sf10:", 4);
        error("Sf100:", 5);
        error("Sf10000:", 7);
        error("Sf15", 3);
        error("Sf107", 4);
        error("Sf1061", 5);
        error("Sf10004", 6);
        error("Sf100000", 7);
        error("Sf100031", 7);
        error("St2", 2);
        error("St16", 3);
        error("St150", 4);
        error("St156", 4);
        error("Sc4", 2);
        error("Sc00", 3);
        error("Sc06", 3);
        error("Sc014", 4);
        error("Sc0105", 5);
        error("Sc01006", 6);
        error("Sc010006", 7);
        error("Sp2", 2);
        error("Sp0:", 3);
        error("Sp1/", 3);
        error("Sp12", 3);
        error("Se12", 3);
        error("Se11:", 4);
        error("Sl12", 3);
        error("Sl11/", 4);
        error("Sx/", 2);
        error("Sx:", 2);
        error("Sw0", 2);
    }

    private static void loadsAStudio() {
        DanceFloors x = new DanceFloors();
        Studios.type(x, "Sf534512f200030t114t081c311055c011000ddp00p01e000e001e010w3");
        Checks.due("load()", 2, x::load);
        long[] floor = {5, 3, 45, 12, 0, 36};
        for (int what = 0; what < floor.length; what++) {
            int number = what;
            Checks.due("floorOf(0, " + what + ")", floor[what], () -> x.floorOf(0, number));
        }
        Checks.due("teacherOf(0, 0)", 11, () -> x.teacherOf(0, 0));
        Checks.due("teacherOf(0, 1)", 4, () -> x.teacherOf(0, 1));
        long[] lesson = {3, 1, 1, 0, 5, 5};
        for (int what = 0; what < lesson.length; what++) {
            int number = what;
            Checks.due("classOf(0, " + what + ")", lesson[what], () -> x.classOf(0, number));
        }
        Checks.due("seats", 2, () -> x.about(5));
        Checks.due("weeks", 3, () -> x.about(4));
        Checks.due("uses", 6, () -> x.about(7));
    }

    private static void leavesCommandsOut() {
        leftOut("S", 0);
        leftOut("Sp00e000l000x0w1c310000", 5);
        leftOut("Sdddddddddddddd", 2);
        leftOut("Sf100001f100001f100001f100001f100001", 1);
        leftOut("St001t001t001t001t001t001", 1);
        leftOut("Sdp00p00p00p00p00p00p00p00p00p00", 1);
        leftOut("Sf100001t151dc310000c310000e000e000l000l000", 3);
        leftOut("Sf100001t151c310000c310001c310002c310003c310004c310005"
                + "c310010c310011c310012c310013c310014x9x9", 2);
        refusalsOfTextCountNowhere();
    }

    private static void leftOut(String text, int due) {
        DanceFloors x = new DanceFloors();
        Studios.type(x, text);
        Checks.due("load() of " + text, due, x::load);
        Checks.due("load() again of " + text, due, x::load);
        Checks.due("clearText() behind load()", text.length(), x::clearText);
    }

    private static void doesEachCommand() {
        DanceFloors x = Studios.loaded("Sf100009t085dddc310000c310001c310002e000e011e021p02p02x0");
        Checks.due("classes behind x0", 2, () -> x.about(2));
        Checks.due("seats behind x0", 2, () -> x.classOf(0, 7));
        Checks.due("left of dancer 2 behind p02p02", 20, () -> x.dancerOf(2, 2));
        Studios.type(x, "Sf100009t085dddc310000c310001c310002e001e021l021");
        Checks.due("load()", 0, x::load);
        Checks.due("seats of dancer 0 behind l021", 1, () -> x.dancerOf(0, 5));
        Checks.due("seats of dancer 2 behind l021", 0, () -> x.dancerOf(2, 5));
        Checks.due("seats in class 1 behind l021", 1, () -> x.classOf(1, 7));
    }

    private static void refusalsOfTextCountNowhere() {
        DanceFloors x = Studios.loaded("Sf100001t151dc310000c310000e000e000");
        Checks.due("classes", 1, () -> x.about(2));
        Checks.due("seats", 1, () -> x.about(5));
        Checks.due("refused", 0, () -> x.about(11));
    }

    private static void loadForgetsAll() {
        DanceFloors x = Studios.small();
        x.enter(0, 0);
        x.enter(0, 0);
        x.enter(1, 0);
        x.weeks(2);
        x.drop(0);
        x.tune(0, 5);
        x.tune(1, 50);
        x.save(0);
        x.save(1);
        Studios.type(x, "Sd");
        Checks.due("load()", 0, x::load);
        Checks.same("what there is behind it", Studios.look(Studios.loaded("Sd")), Studios.look(x));
        Checks.dueState(x, "undo() behind load()", x::undo);
        Checks.dueState(x, "restore(0) behind load()", () -> x.restore(0));
        Checks.dueState(x, "restore(1) behind load()", () -> x.restore(1));
        Checks.due("a new dancer", 1, x::dancer);
        Checks.due("undo() of the new dancer", 0, x::undo);
        Checks.due("dancers behind undo()", 1, () -> x.about(3));
    }

    private static void loadOfNoStudioChangesNothing() {
        DanceFloors x = Studios.small();
        x.save(1);
        x.weeks(4);
        Studios.type(x, "Sdf");
        Checks.dueState(x, "load() of no studio", x::load);
        Checks.due("errorPosition()", 3, x::errorPosition);
        Checks.due("undo()", 0, x::undo);
        Checks.due("restore(1)", 0, () -> x.restore(1));
        x.clearText();
        Checks.dueState(x, "load() of an empty text", x::load);
    }
}
