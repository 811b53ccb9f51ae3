/** Promise 1, and the face of the class. */
public final class NewObjectTest {
    public static void main(String[] args) {
        newObjectIsEmpty();
        objectsAreApart();
        constantIsMinusOne();
        faceIsTheDocuments();
        Checks.end();
    }

    private static void newObjectIsEmpty() {
        DanceFloors x = new DanceFloors();
        for (int what = 0; what < 12; what++) {
            int number = what;
            Checks.due("about(" + what + ")", 0, () -> x.about(number));
        }
        Checks.due("setting(0)", 2, () -> x.setting(0));
        Checks.due("setting(1)", 12, () -> x.setting(1));
        Checks.due("uses(0)", 0, () -> x.uses(0));
        Checks.due("uses(1)", 0, () -> x.uses(1));
        Checks.due("held()", 0, x::held);
        Checks.due("errorPosition()", 0, x::errorPosition);
        Checks.due("clearText()", 0, x::clearText);
        Checks.dueIndex(x, "floorOf(0, 0)", () -> x.floorOf(0, 0));
        Checks.dueIndex(x, "teacherOf(0, 0)", () -> x.teacherOf(0, 0));
        Checks.dueIndex(x, "classOf(0, 0)", () -> x.classOf(0, 0));
        Checks.dueIndex(x, "dancerOf(0, 0)", () -> x.dancerOf(0, 0));
        Checks.dueState(x, "undo()", x::undo);
        Checks.dueState(x, "restore(0)", () -> x.restore(0));
        Checks.dueState(x, "restore(1)", () -> x.restore(1));
    }

    private static void objectsAreApart() {
        DanceFloors x = new DanceFloors();
        DanceFloors y = new DanceFloors();
        x.dancer();
        x.append('S');
        x.save(0);
        Checks.due("about(3) of the other", 0, () -> y.about(3));
        Checks.due("errorPosition() of the other", 0, y::errorPosition);
        Checks.dueState(y, "restore(0) of the other", () -> y.restore(0));
    }

    private static void constantIsMinusOne() {
        Checks.due("NONE", -1, () -> DanceFloors.NONE);
    }

    private static void faceIsTheDocuments() {
        String methods = " about append bestFloor classOf clearText dancer dancerOf drop emptyIn enter errorPosition"
                + " floor floorOf held leave load pass restore runScript save set setting simulate teacher teacherOf"
                + " tune undo uses weeks why whySeat ";
        int found = 0;
        for (java.lang.reflect.Method method : DanceFloors.class.getDeclaredMethods()) {
            boolean isPublic = java.lang.reflect.Modifier.isPublic(method.getModifiers());
            boolean isPrivate = java.lang.reflect.Modifier.isPrivate(method.getModifiers());
            boolean isPromised = methods.contains(" " + method.getName() + " ");
            Checks.same(method.getName() + " is public", isPromised, isPublic);
            Checks.same(method.getName() + " is private", !isPromised, isPrivate);
            found += isPublic ? 1 : 0;
        }
        Checks.same("public methods", 31, found);
        Checks.same("public fields", 1, DanceFloors.class.getFields().length);
        Checks.same("public constructors", 1, DanceFloors.class.getConstructors().length);
    }
}
