/** Studios that tests begin with, and a look at all that a studio tells. */
final class Studios {
    private Studios() {
    }

    static void type(DanceFloors x, String text) {
        x.clearText();
        for (int i = 0; i < text.length(); i++) {
            x.append(text.charAt(i));
        }
    }

    static DanceFloors loaded(String text) {
        DanceFloors x = new DanceFloors();
        type(x, text);
        x.load();
        return x;
    }

    /**
     * Two floors, two teachers, three dancers with a pass each; class 0: rounds of level 1 on floor 0
     * by teacher 0 on day 0 at hour 0; class 1: rounds of level 2 on floor 1 by teacher 1 on day 1 at hour 2.
     */
    static DanceFloors small() {
        return loaded("Sf924020f110002t155t083dddp00p01p02c310000c321112");
    }

    /** Everything that can be asked without an action, as one text. */
    static String look(DanceFloors x) {
        StringBuilder all = new StringBuilder();
        for (int what = 0; what < 12; what++) {
            all.append(x.about(what)).append(' ');
        }
        for (int i = 0; i < 2; i++) {
            all.append(x.setting(i)).append('/').append(x.uses(i)).append(' ');
        }
        for (int f = 0; f < x.about(0); f++) {
            for (int what = 0; what < 6; what++) {
                all.append('f').append(x.floorOf(f, what));
            }
        }
        for (int t = 0; t < x.about(1); t++) {
            for (int what = 0; what < 4; what++) {
                all.append('t').append(x.teacherOf(t, what));
            }
        }
        for (int k = 0; k < x.about(2); k++) {
            for (int what = 0; what < 10; what++) {
                all.append('c').append(x.classOf(k, what));
            }
        }
        for (int d = 0; d < x.about(3); d++) {
            for (int what = 0; what < 6; what++) {
                all.append('d').append(x.dancerOf(d, what));
            }
            for (int k = 0; k < x.about(2); k++) {
                all.append('s').append(x.whySeat(d, k));
            }
            all.append('e').append(x.emptyIn(d));
        }
        return all.append(" held ").append(x.held()).append(" text ").append(x.errorPosition()).toString();
    }
}
