/** "When a week goes by", SETTINGS, and promises 11, 12, 21, 22, 27 and 28. */
public final class BoundsOfWeeksTest {
    private static final int NONE = DanceFloors.NONE;

    public static void main(String[] args) {
        oneToNineWeeksGoBy();
        weeksGoByWithoutClasses();
        settingsHaveTheirRanges();
        holdsFromSettingZeroOn();
        thoseWithoutUsesDoNotCount();
        lastUseGoesToTheFirstClass();
        notHeldUsesNothing();
        stepsAreTheLevelOrOne();
        risesFromSettingOneOn();
        risesOneLevelAWeek();
        risesBehindAllClasses();
        levelFiveGoesOn();
        comesToLevelFiveWithNoSteps();
        risesByALowerSetting();
        seatsStayWhateverLevelsAre();
        weeksTellTheUsesInThem();
        usesAgreeBehindDrops();
        heldTellsTheNextWeek();
        heldHasABitForEachClass();
        emptyInTellsEachNumberOfWeeks();
        emptyInMindsOtherDancers();
        emptyInMindsOrderOfClasses();
        lookingAheadChangesNothing();
        Checks.end();
    }

    /** Class 0, rounds of level 1, with dancers 0 to n - 1 in it, each with a pass. */
    private static DanceFloors classOf(int n) {
        DanceFloors x = Studios.loaded("Sf100030t085c310000" + "d".repeat(n));
        for (int d = 0; d < n; d++) {
            x.enter(d, 0);
            x.pass(d);
        }
        return x;
    }

    private static void dancer(DanceFloors x, String name, int d, int level, int steps, int left) {
        Checks.due(name + ": level of dancer " + d, level, () -> x.dancerOf(d, 0));
        Checks.due(name + ": steps of dancer " + d, steps, () -> x.dancerOf(d, 1));
        Checks.due(name + ": left of dancer " + d, left, () -> x.dancerOf(d, 2));
    }

    private static void oneToNineWeeksGoBy() {
        for (int n = 1; n <= 9; n++) {
            int weeks = n;
            DanceFloors x = classOf(2);
            Checks.due("weeks(" + n + ")", 2 * n, () -> x.weeks(weeks));
            Checks.due("weeks behind weeks(" + n + ")", n, () -> x.about(4));
            Checks.due("held behind weeks(" + n + ")", n, () -> x.about(9));
            Checks.due("weeks of class 0 behind weeks(" + n + ")", n, () -> x.classOf(0, 8));
            Checks.due("uses in class 0 behind weeks(" + n + ")", 2 * n, () -> x.classOf(0, 9));
            dancer(x, "behind weeks(" + n + ")", 1, 1, n, 10 - n);
        }
    }

    private static void weeksGoByWithoutClasses() {
        DanceFloors x = new DanceFloors();
        Checks.due("weeks(1)", 0, () -> x.weeks(1));
        Checks.due("weeks(9)", 0, () -> x.weeks(9));
        Checks.due("weeks", 10, () -> x.about(4));
        Checks.due("held", 0, () -> x.about(9));
        Checks.due("not held", 0, () -> x.about(10));
        Checks.due("held()", 0, x::held);
    }

    private static void settingsHaveTheirRanges() {
        int[] most = {9, 50};
        int[] first = {2, 12};
        for (int what = 0; what < 2; what++) {
            int w = what;
            DanceFloors x = new DanceFloors();
            int before = first[w];
            for (int v = 1; v <= most[w]; v++) {
                int value = v;
                Checks.due("tune(" + w + ", " + v + ")", before, () -> x.tune(w, value));
                Checks.due("setting(" + w + ")", v, () -> x.setting(w));
                Checks.due("the other setting", first[1 - w], () -> x.setting(1 - w));
                before = v;
            }
            int last = most[w];
            Checks.same("tune(" + w + ") above", "throws.IllegalArgumentException",
                    Checks.answerOf(() -> x.tune(w, last + 1)));
            Checks.same("tune(" + w + ") below", "throws.IllegalArgumentException",
                    Checks.answerOf(() -> x.tune(w, 0)));
            Checks.due("tune() to what it is", last, () -> x.tune(w, last));
        }
    }

    private static void holdsFromSettingZeroOn() {
        for (int least = 1; least <= 9; least++) {
            for (int come = 0; come <= 10; come++) {
                int v = least;
                DanceFloors x = classOf(come);
                x.tune(0, v);
                boolean isHeld = come >= least;
                String name = " with " + come + " of " + least;
                Checks.due("held()" + name, isHeld ? 1 : 0, x::held);
                Checks.due("weeks(1)" + name, isHeld ? come : 0, () -> x.weeks(1));
                Checks.due("held" + name, isHeld ? 1 : 0, () -> x.about(9));
                Checks.due("not held" + name, isHeld ? 0 : 1, () -> x.about(10));
            }
        }
        DanceFloors x = classOf(1);
        Checks.due("one comes, at first", 0, () -> x.weeks(1));
        DanceFloors y = classOf(2);
        Checks.due("two come, at first", 2, () -> y.weeks(1));
    }

    private static void thoseWithoutUsesDoNotCount() {
        DanceFloors x = classOf(2);
        x.dancer();
        x.enter(2, 0);
        x.tune(0, 3);
        Checks.due("held() of two with uses and one without", 0, x::held);
        Checks.due("weeks(1) of two with uses and one without", 0, () -> x.weeks(1));
        x.tune(0, 2);
        Checks.due("weeks(1) of the two", 2, () -> x.weeks(1));
        dancer(x, "without uses", 2, 1, 0, 0);
        Checks.due("weeks(9) of the two", 18, () -> x.weeks(9));
        Checks.due("held() of none with uses", 0, x::held);
        Checks.due("weeks(1) of none with uses", 0, () -> x.weeks(1));
        dancer(x, "with the last use danced", 0, 1, 10, 0);
        Checks.due("seats of those without uses", 3, () -> x.classOf(0, 7));
    }

    private static void lastUseGoesToTheFirstClass() {
        DanceFloors x = Studios.loaded("Sf100009t085dp00c310000c310001e000e001");
        x.tune(0, 1);
        Checks.due("weeks(4)", 8, () -> x.weeks(4));
        x.leave(0, 1);
        x.weeks(1);
        x.enter(0, 1);
        dancer(x, "with one use", 0, 1, 9, 1);
        Checks.due("held() with one use", 1, x::held);
        Checks.due("weeks(1) with one use", 1, () -> x.weeks(1));
        Checks.due("uses in class 0", 6, () -> x.classOf(0, 9));
        Checks.due("uses in class 1", 4, () -> x.classOf(1, 9));
        Checks.due("weeks of class 0", 6, () -> x.classOf(0, 8));
        Checks.due("weeks of class 1", 4, () -> x.classOf(1, 8));
        Checks.due("held", 10, () -> x.about(9));
        Checks.due("not held", 2, () -> x.about(10));
    }

    private static void notHeldUsesNothing() {
        DanceFloors x = classOf(3);
        x.tune(0, 4);
        Checks.due("weeks(9) of three of four", 0, () -> x.weeks(9));
        for (int d = 0; d < 3; d++) {
            dancer(x, "of a class that is not held", d, 1, 0, 10);
        }
        Checks.due("not held", 9, () -> x.about(10));
        Checks.due("weeks of class 0", 0, () -> x.classOf(0, 8));
        Checks.due("uses in class 0", 0, () -> x.classOf(0, 9));
    }

    /** A dancer of each level, in a class of each level that may be entered; from level 3 on some are below. */
    private static void stepsAreTheLevelOrOne() {
        for (int level = 1; level <= 5; level++) {
            for (int of = 1; of <= Math.min(5, level + 1); of++) {
                DanceFloors x = Studios.loaded("Sf100009t085dp00c310000e000");
                x.tune(0, 1);
                x.tune(1, 1);
                for (int i = 1; i < level; i++) {
                    x.weeks(1);
                }
                x.drop(0);
                x.tune(1, 50);
                x.set(3, of, 0, 0, 1, 1);
                x.enter(0, 0);
                x.weeks(1);
                dancer(x, "level " + level + " in a class of level " + of, 0, level, of >= level ? of : 1, 10 - level);
            }
        }
    }

    private static void risesFromSettingOneOn() {
        for (int steps = 1; steps <= 10; steps++) {
            for (int least = Math.max(1, steps - 1); least <= steps + 1; least++) {
                int v = least;
                DanceFloors x = classOf(2);
                x.tune(1, 50);
                for (int i = 1; i < steps; i++) {
                    x.weeks(1);
                }
                x.tune(1, v);
                x.weeks(1);
                boolean rises = steps >= least;
                dancer(x, steps + " steps of " + least, 0, rises ? 2 : 1, rises ? 0 : steps, 10 - steps);
            }
        }
        DanceFloors x = classOf(2);
        x.weeks(9);
        x.pass(0);
        x.pass(1);
        x.weeks(2);
        dancer(x, "11 steps of 12, at first", 0, 1, 11, 9);
        x.weeks(1);
        dancer(x, "12 steps of 12, at first", 0, 2, 0, 8);
    }

    private static void risesOneLevelAWeek() {
        DanceFloors x = Studios.loaded("Sf100009t085ddp00p01c320000e000e010");
        x.tune(1, 1);
        x.weeks(1);
        dancer(x, "2 steps of 1", 0, 2, 0, 9);
        x.weeks(1);
        dancer(x, "2 steps of 1 again", 1, 3, 0, 8);
    }

    /** Steps of three classes of level 1; rising in between, the third would give 1 step of a level 2 dancer. */
    private static void risesBehindAllClasses() {
        DanceFloors x = Studios.loaded("Sf100009t085dp00c310000c310001c320002e000e001e002");
        x.tune(0, 1);
        x.tune(1, 2);
        x.weeks(1);
        dancer(x, "behind three classes", 0, 2, 0, 7);
        DanceFloors y = Studios.loaded("Sf100009t085dp00c310000c310001c320002e000e001e002");
        y.tune(0, 1);
        y.tune(1, 5);
        y.weeks(1);
        dancer(y, "1 and 1 and 2 steps of 5", 0, 1, 4, 7);
    }

    private static void levelFiveGoesOn() {
        DanceFloors x = classOf(2);
        x.tune(1, 1);
        x.weeks(4);
        dancer(x, "level 5", 0, 5, 0, 6);
        x.weeks(1);
        dancer(x, "level 5 with steps", 0, 5, 1, 5);
        x.weeks(5);
        dancer(x, "level 5 with more steps", 0, 5, 6, 0);
        Studios.passes(x, 0, 9);
        Studios.passes(x, 1, 9);
        for (int i = 0; i < 10; i++) {
            x.weeks(9);
        }
        dancer(x, "level 5 with more steps than setting 1 may be", 0, 5, 96, 0);
    }

    private static void comesToLevelFiveWithNoSteps() {
        DanceFloors x = Studios.loaded("Sf100009t085ddp00p01c310000c320001e000e010e001e011");
        x.tune(1, 3);
        x.weeks(1);
        dancer(x, "level 2", 0, 2, 0, 8);
        x.weeks(1);
        dancer(x, "level 3, by 1 step and 2", 0, 3, 0, 6);
        x.weeks(1);
        dancer(x, "level 3, by 1 step and 1", 0, 3, 2, 4);
        x.weeks(1);
        dancer(x, "level 4, by 4 steps of 3", 0, 4, 0, 2);
        x.pass(0);
        x.pass(1);
        x.weeks(2);
        dancer(x, "level 5, by 4 steps of 3", 0, 5, 0, 8);
        x.weeks(2);
        dancer(x, "level 5, with 4 steps of 3", 0, 5, 4, 4);
    }

    private static void risesByALowerSetting() {
        DanceFloors x = classOf(2);
        x.weeks(6);
        x.drop(0);
        x.tune(1, 7);
        x.weeks(1);
        dancer(x, "6 steps of 7, without a class", 0, 1, 6, 4);
        x.tune(1, 6);
        dancer(x, "6 steps of 6, before the week", 0, 1, 6, 4);
        x.weeks(1);
        dancer(x, "6 steps of 6, without a class", 0, 2, 0, 4);
        x.tune(1, 1);
        x.weeks(9);
        dancer(x, "0 steps of 1", 1, 2, 0, 4);
    }

    private static void seatsStayWhateverLevelsAre() {
        DanceFloors x = classOf(2);
        x.tune(1, 1);
        x.weeks(9);
        dancer(x, "four levels above", 0, 5, 5, 1);
        Checks.due("seats", 2, () -> x.about(5));
        Checks.due("whySeat() of a seat that is had", 1, () -> x.whySeat(0, 0));
        Checks.due("weeks(1)", 2, () -> x.weeks(1));
    }

    private static void weeksTellTheUsesInThem() {
        DanceFloors x = classOf(3);
        x.leave(2, 0);
        Checks.due("weeks(3) of two", 6, () -> x.weeks(3));
        x.enter(2, 0);
        Checks.due("weeks(9) of three, two of them for 7 weeks", 21, () -> x.weeks(9));
        Checks.due("uses", 27, () -> x.about(7));
        Checks.due("weeks(9) of one", 0, () -> x.weeks(9));
        Checks.due("uses still", 27, () -> x.about(7));
    }

    private static void usesAgreeBehindDrops() {
        DanceFloors x = Studios.loaded("Sf100009t085ddp00p01c310000c310001c310002e000e010e001e012");
        x.tune(0, 1);
        int[] due = {4, 6, 7, 7};
        for (int i = 0; i < 4; i++) {
            int uses = due[i];
            x.weeks(1);
            Checks.due("uses(0) behind " + i + " drops", uses, () -> x.uses(0));
            Checks.due("uses(1) behind " + i + " drops", uses, () -> x.uses(1));
            Checks.due("about(7) behind " + i + " drops", uses, () -> x.about(7));
            Checks.due("left behind " + i + " drops", 20 - uses, () -> x.about(8));
            if (i < 3) {
                x.drop(0);
                Checks.due("uses(1) at once behind a drop", uses, () -> x.uses(1));
            }
        }
        Checks.due("held", 6, () -> x.about(9));
        Checks.due("not held", 0, () -> x.about(10));
    }

    private static void heldTellsTheNextWeek() {
        DanceFloors x = classOf(2);
        for (int week = 1; week <= 10; week++) {
            Checks.due("held() before week " + week, 1, x::held);
            x.weeks(1);
        }
        Checks.due("held() behind the last use", 0, x::held);
        x.pass(0);
        Checks.due("held() with one who comes", 0, x::held);
        x.tune(0, 1);
        Checks.due("held() with one who is enough", 1, x::held);
        x.drop(0);
        Checks.due("held() without classes", 0, x::held);
    }

    private static void heldHasABitForEachClass() {
        for (int k = 0; k < 10; k++) {
            DanceFloors x = Studios.full();
            x.leave(0, 0);
            x.leave(1, 0);
            x.enter(0, k);
            x.tune(0, 1);
            Checks.due("held() of class " + k + " alone", 1 << k, x::held);
        }
        DanceFloors x = Studios.full();
        x.tune(0, 1);
        for (int k = 1; k < 10; k++) {
            x.enter(0, k);
        }
        Checks.due("held() of all ten", 1023, x::held);
    }

    private static void emptyInTellsEachNumberOfWeeks() {
        DanceFloors x = classOf(2);
        x.tune(0, 1);
        Studios.passes(x, 0, 8);
        x.weeks(1);
        x.pass(0);
        x.leave(1, 0);
        for (int left = 99; left >= 0; left--) {
            Checks.due("emptyIn() with " + left + " left", left, () -> x.emptyIn(0));
            x.weeks(1);
        }
        Checks.due("emptyIn() behind all weeks", 0, () -> x.emptyIn(0));
        Checks.due("emptyIn() of one who has no seat", NONE, () -> x.emptyIn(1));
        x.enter(1, 0);
        Checks.due("emptyIn() of one who has a seat again", 9, () -> x.emptyIn(1));
        x.tune(0, 2);
        Checks.due("emptyIn() of one who is not enough", NONE, () -> x.emptyIn(1));
        Checks.due("emptyIn() of the one who has none left", 0, () -> x.emptyIn(0));
    }

    private static void emptyInMindsOtherDancers() {
        DanceFloors x = classOf(3);
        x.pass(0);
        Checks.due("emptyIn(0), behind 10 weeks alone", NONE, () -> x.emptyIn(0));
        Checks.due("emptyIn(1)", 10, () -> x.emptyIn(1));
        x.pass(1);
        Checks.due("emptyIn(0), with dancer 1 for 20 weeks", 20, () -> x.emptyIn(0));
        Checks.due("emptyIn(2)", 10, () -> x.emptyIn(2));
        x.tune(0, 3);
        Checks.due("emptyIn(0), of three for 10 weeks", NONE, () -> x.emptyIn(0));
    }

    private static void emptyInMindsOrderOfClasses() {
        DanceFloors x = Studios.loaded("Sf100009t085ddp00p01c310000c310001c310002e000e001e002e012");
        x.tune(0, 1);
        Checks.due("emptyIn() with three classes a week", 4, () -> x.emptyIn(0));
        Checks.due("emptyIn() with one class a week", 10, () -> x.emptyIn(1));
        x.tune(0, 2);
        Checks.due("emptyIn() with class 2 alone", 10, () -> x.emptyIn(0));
        x.dancer();
        x.pass(2);
        x.enter(2, 0);
        Checks.due("emptyIn() with classes 0 and 2", 5, () -> x.emptyIn(0));
        Checks.due("emptyIn() of the one in class 2 then", NONE, () -> x.emptyIn(1));
    }

    private static void lookingAheadChangesNothing() {
        DanceFloors x = classOf(2);
        x.held();
        x.emptyIn(0);
        x.emptyIn(1);
        Checks.due("weeks", 0, () -> x.about(4));
        Checks.due("held", 0, () -> x.about(9));
        dancer(x, "behind looking ahead", 0, 1, 0, 10);
        Checks.due("uses in class 0", 0, () -> x.classOf(0, 9));
        Checks.due("the action before is taken back", 3, x::undo);
    }
}
