import java.util.function.IntBinaryOperator;

/** Studios that tests begin with, and a look at all that a studio tells. */
final class Studios {
    private Studios() {
    }

    static void type(DanceFloors x, String text) {
        x.clearText();
        for (int i = 0; i < text.length(); i++) {
            x.append(text.charAt(i));
        }
    }

    static DanceFloors loaded(String text) {
        DanceFloors x = new DanceFloors();
        type(x, text);
        x.load();
        return x;
    }

    /**
     * Two floors, two teachers, three dancers with a pass each; class 0: rounds of level 1 on floor 0
     * by teacher 0 on day 0 at hour 0; class 1: rounds of level 2 on floor 1 by teacher 1 on day 1 at hour 2.
     */
    static DanceFloors small() {
        return loaded("Sf924020f110002t155t083dddp00p01p02c310000c321112");
    }

    /**
     * All that there can be: 4 floors, 5 teachers, 10 classes (rounds of level 1 on floor 0 by teacher 0: class k
     * on day k / 6 at hour k % 6), 12 dancers. Dancers 0 and 1 have a seat in class 0, of which one week was danced;
     * dancer 0 has 99 uses left, dancer 1 has 9. The hours of days 2 to 5 are free.
     */
    static DanceFloors full() {
        DanceFloors x = new DanceFloors();
        x.floor(9, 4, 60, 30);
        x.floor(5, 1, 20, 2);
        x.floor(3, 0, 0, 1);
        x.floor(8, 2, 14, 10);
        x.teacher(15, 5);
        x.teacher(15, 5);
        x.teacher(8, 1);
        x.teacher(0, 5);
        x.teacher(15, 2);
        for (int k = 0; k < 10; k++) {
            x.set(3, 1, 0, 0, k / 6, k % 6);
        }
        for (int d = 0; d < 12; d++) {
            x.dancer();
        }
        passes(x, 0, 9);
        passes(x, 1, 1);
        x.enter(0, 0);
        x.enter(1, 0);
        x.weeks(1);
        x.pass(0);
        return x;
    }

    static void passes(DanceFloors x, int d, int n) {
        for (int i = 0; i < n; i++) {
            x.pass(d);
        }
    }

    /** All that about() and uses() tell, as one text. */
    static String counts(DanceFloors x) {
        StringBuilder all = new StringBuilder();
        for (int what = 0; what < 12; what++) {
            all.append(x.about(what)).append(' ');
        }
        return all.append(x.uses(0)).append(' ').append(x.uses(1)).toString();
    }

    /** Everything that can be asked without an action, as one text; of a full studio by some 370 calls, of the 512 that an object has. */
    static String look(DanceFloors x) {
        StringBuilder all = new StringBuilder(counts(x));
        int[] count = new int[4];
        for (int what = 0; what < 4; what++) {
            count[what] = x.about(what);
        }
        all.append(" settings ").append(x.setting(0)).append(' ').append(x.setting(1));
        row(all, "floor", count[0], 6, x::floorOf);
        row(all, "teacher", count[1], 4, x::teacherOf);
        row(all, "class", count[2], 10, x::classOf);
        row(all, "dancer", count[3], 6, x::dancerOf);
        for (int d = 0; d < count[3]; d++) {
            all.append(" empty in ").append(x.emptyIn(d)).append(" seats");
            for (int k = 0; k < count[2]; k++) {
                all.append(' ').append(x.whySeat(d, k));
            }
        }
        return all.append(" held ").append(x.held()).append(" text ").append(x.errorPosition()).toString();
    }

    private static void row(StringBuilder all, String name, int count, int numbers, IntBinaryOperator tell) {
        for (int i = 0; i < count; i++) {
            all.append(' ').append(name);
            for (int what = 0; what < numbers; what++) {
                all.append(' ').append(tell.applyAsInt(i, what));
            }
        }
    }
}
