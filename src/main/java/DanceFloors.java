/**
 * A dance studio with floors, teachers, classes, dancers with passes, and weeks that go by.
 * All rows are made by the constructor and used again, so that no later call makes an object
 * beside the exception that it throws.
 */
public final class DanceFloors {
    public static final int NONE = -1;

    private static final int MAX_FLOORS = 4;
    private static final int MAX_TEACHERS = 5;
    private static final int MAX_LESSONS = 10;
    private static final int MAX_DANCERS = 12;
    private static final int MAX_LEVEL = 5;
    private static final int MAX_WEEKS = 9;
    private static final int DAYS = 6;
    private static final int HOURS = 6;

    private static final int BALLET = 0;
    private static final int TAP = 1;
    private static final int LEAPS = 2;
    private static final int ROUNDS = 3;

    private static final int DONE = 0;
    private static final int FLOOR_IN_USE = 1;
    private static final int TEACHER_IN_USE = 2;
    private static final int NOT_TAUGHT = 3;
    private static final int SPRING_UNSUITED = 4;
    private static final int BARRE_TOO_SHORT = 5;
    private static final int MIRRORS_TOO_FEW = 6;

    private static final int HAS_SEAT = 1;
    private static final int LEVEL_TOO_HIGH = 2;
    private static final int HOUR_IN_USE = 3;
    private static final int LESSON_FULL = 4;

    private static final int USES_OF_PASS = 10;
    private static final int LEFT_FOR_NO_PASS = 90;

    private static final int SETTINGS = 2;
    private static final int LEAST_DANCERS = 0;
    private static final int STEPS_TO_LEVEL = 1;

    private static final int MAX_TEXT = 120;
    private static final int MAX_SIGN = 255;
    private static final int MAX_NUMBERS = 6;

    private static final int MAX_REMEMBERED = 14;
    private static final int SLOTS = 2;

    private static final int WEEKS_LOOKED_AHEAD = 100;
    private static final int MAX_COMMANDS = 3;
    private static final int GROUP = 100000;
    private static final int MAX_TURNS = 100;
    private static final long SEED_FACTOR = 6364136223846793005L;
    private static final long SEED_STEP = 1442695040888963407L;

    private final Text text;
    private final Studio studio;
    private final Studio trial;
    private final History history;
    private final Studio[] slots;
    private final boolean[] slotFilled;

    public DanceFloors() {
        text = new Text();
        studio = new Studio();
        trial = new Studio();
        history = new History();
        slots = new Studio[SLOTS];
        for (int i = 0; i < SLOTS; i++) {
            slots[i] = new Studio();
        }
        slotFilled = new boolean[SLOTS];
    }

    // ---- text

    public int append(int c) throws IllegalArgumentException, IllegalStateException {
        requireArgument(isWithin(c, 0, MAX_SIGN));
        requireState(text.length < MAX_TEXT);
        return text.addSign((char) c);
    }

    public int clearText() {
        return text.makeEmpty();
    }

    public int errorPosition() {
        return text.findError();
    }

    public int load() throws IllegalStateException {
        requireState(text.findError() == NONE);
        beginAnew();
        int leftOut = 0;
        text.readStart();
        for (int i = 0; i < MAX_TEXT && text.hasMore(); i++) {
            if (text.readCommand() && !doCommand(text.letter, text.numbers)) {
                leftOut++;
            }
        }
        return leftOut;
    }

    // ---- what there is

    public int about(int what) throws IllegalArgumentException {
        switch (what) {
            case 0: return studio.floorCount;
            case 1: return studio.teacherCount;
            case 2: return studio.lessonCount;
            case 3: return studio.dancerCount;
            case 4: return studio.weekCount;
            case 5: return studio.countSeats();
            case 6: return studio.countPasses();
            case 7: return studio.countUsesByDancers();
            case 8: return studio.countLeft();
            case 9: return studio.heldCount;
            case 10: return studio.notHeldCount;
            case 11: return studio.refusedCount;
            default: throw new IllegalArgumentException("what is out of range");
        }
    }

    public int floorOf(int f, int what) throws IndexOutOfBoundsException, IllegalArgumentException {
        requireIndex(studio.hasFloor(f));
        Floor floor = studio.floors[f];
        switch (what) {
            case 0: return floor.spring;
            case 1: return floor.mirrors;
            case 2: return floor.barre;
            case 3: return floor.places;
            case 4: return studio.countLessonsOnFloor(f);
            case 5: return DAYS * HOURS - studio.countLessonsOnFloor(f);
            default: throw new IllegalArgumentException("what is out of range");
        }
    }

    public int teacherOf(int t, int what) throws IndexOutOfBoundsException, IllegalArgumentException {
        requireIndex(studio.hasTeacher(t));
        Teacher teacher = studio.teachers[t];
        switch (what) {
            case 0: return teacher.styles;
            case 1: return teacher.highest;
            case 2: return studio.countLessonsOfTeacher(t);
            case 3: return studio.countDaysOfTeacher(t);
            default: throw new IllegalArgumentException("what is out of range");
        }
    }

    public int classOf(int k, int what) throws IndexOutOfBoundsException, IllegalArgumentException {
        requireIndex(studio.hasLesson(k));
        Lesson lesson = studio.lessons[k];
        switch (what) {
            case 0: return lesson.style;
            case 1: return lesson.level;
            case 2: return lesson.floor;
            case 3: return lesson.teacher;
            case 4: return lesson.day;
            case 5: return lesson.hour;
            case 6: return studio.roomIn(lesson);
            case 7: return lesson.countSeats();
            case 8: return lesson.weeksHeld;
            case 9: return lesson.uses;
            default: throw new IllegalArgumentException("what is out of range");
        }
    }

    public int dancerOf(int d, int what) throws IndexOutOfBoundsException, IllegalArgumentException {
        requireIndex(studio.hasDancer(d));
        Dancer dancer = studio.dancers[d];
        switch (what) {
            case 0: return dancer.level;
            case 1: return dancer.steps;
            case 2: return dancer.left;
            case 3: return dancer.usesSoFar();
            case 4: return dancer.passes;
            case 5: return studio.countSeatsOfDancer(d);
            default: throw new IllegalArgumentException("what is out of range");
        }
    }

    public int uses(int way) throws IllegalArgumentException {
        requireArgument(isWithin(way, 0, 1));
        return way == 0 ? studio.countUsesByDancers() : studio.countUsesByLessons();
    }

    public int setting(int what) throws IllegalArgumentException {
        requireArgument(isWithin(what, 0, SETTINGS - 1));
        return studio.settings[what];
    }

    // ---- actions

    public int floor(int spring, int mirrors, int barre, int places)
            throws IllegalArgumentException, IllegalStateException {
        requireArgument(isWithin(spring, 1, 9));
        requireArgument(isWithin(mirrors, 0, 4));
        requireArgument(isWithin(barre, 0, 60));
        requireArgument(isWithin(places, 1, 30));
        requireState(studio.floorCount < MAX_FLOORS);
        history.remember(studio);
        return studio.addFloor(spring, mirrors, barre, places);
    }

    public int teacher(int styles, int highest) throws IllegalArgumentException, IllegalStateException {
        requireArgument(isWithin(styles, 0, 15));
        requireArgument(isWithin(highest, 1, MAX_LEVEL));
        requireState(studio.teacherCount < MAX_TEACHERS);
        history.remember(studio);
        return studio.addTeacher(styles, highest);
    }

    public int set(int style, int level, int f, int t, int day, int hour)
            throws IndexOutOfBoundsException, IllegalArgumentException, IllegalStateException {
        requireIndex(studio.hasFloor(f));
        requireIndex(studio.hasTeacher(t));
        requireLessonArguments(style, level, day, hour);
        requireState(studio.lessonCount < MAX_LESSONS);
        history.remember(studio);
        return studio.countRefusal(studio.addLesson(style, level, f, t, day, hour));
    }

    public int drop(int k) throws IndexOutOfBoundsException {
        requireIndex(studio.hasLesson(k));
        history.remember(studio);
        return studio.dropLesson(k);
    }

    public int dancer() throws IllegalStateException {
        requireState(studio.dancerCount < MAX_DANCERS);
        history.remember(studio);
        return studio.addDancer();
    }

    public int pass(int d) throws IndexOutOfBoundsException, IllegalStateException {
        requireIndex(studio.hasDancer(d));
        requireState(studio.mayHavePass(d));
        history.remember(studio);
        return studio.givePass(d);
    }

    public int enter(int d, int k) throws IndexOutOfBoundsException {
        requireIndex(studio.hasDancer(d));
        requireIndex(studio.hasLesson(k));
        history.remember(studio);
        return studio.countRefusal(studio.takeSeat(d, k));
    }

    public int leave(int d, int k) throws IndexOutOfBoundsException, IllegalStateException {
        requireIndex(studio.hasDancer(d));
        requireIndex(studio.hasLesson(k));
        requireState(studio.hasSeat(d, k));
        history.remember(studio);
        return studio.giveUpSeat(d, k);
    }

    public int weeks(int n) throws IllegalArgumentException {
        requireArgument(isWithin(n, 1, MAX_WEEKS));
        history.remember(studio);
        return studio.passWeeks(n);
    }

    public int tune(int what, int v) throws IllegalArgumentException {
        requireArgument(isWithin(what, 0, SETTINGS - 1));
        requireArgument(isWithin(v, 1, what == LEAST_DANCERS ? 9 : 50));
        history.remember(studio);
        int previous = studio.settings[what];
        studio.settings[what] = v;
        return previous;
    }

    public int undo() throws IllegalStateException {
        requireState(history.count > 0);
        return history.takeBack(studio);
    }

    // ---- what would be, if nothing else is done

    public int why(int style, int level, int f, int t, int day, int hour)
            throws IndexOutOfBoundsException, IllegalArgumentException {
        requireIndex(studio.hasFloor(f));
        requireIndex(studio.hasTeacher(t));
        requireLessonArguments(style, level, day, hour);
        return studio.reasonAgainstLesson(style, level, f, t, day, hour);
    }

    public int whySeat(int d, int k) throws IndexOutOfBoundsException {
        requireIndex(studio.hasDancer(d));
        requireIndex(studio.hasLesson(k));
        return studio.reasonAgainstSeat(d, k);
    }

    public int bestFloor(int style, int level, int t, int day, int hour)
            throws IndexOutOfBoundsException, IllegalArgumentException {
        requireIndex(studio.hasTeacher(t));
        requireLessonArguments(style, level, day, hour);
        return studio.roomiestFloor(style, level, t, day, hour);
    }

    public int emptyIn(int d) throws IndexOutOfBoundsException {
        requireIndex(studio.hasDancer(d));
        if (studio.dancers[d].left == 0) {
            return 0;
        }
        trial.copyFrom(studio);
        for (int week = 1; week <= WEEKS_LOOKED_AHEAD; week++) {
            // Who comes depends on seats and uses alone: behind a week without uses all weeks are like it.
            if (trial.passWeek() == 0) {
                return NONE;
            }
            if (trial.dancers[d].left == 0) {
                return week;
            }
        }
        return NONE;
    }

    public int held() {
        trial.copyFrom(studio);
        trial.passWeek();
        int set = 0;
        for (int k = 0; k < studio.lessonCount; k++) {
            if (trial.lessons[k].weeksHeld > studio.lessons[k].weeksHeld) {
                set |= 1 << k;
            }
        }
        return set;
    }

    // ---- scripts, simulations

    public int runScript(int n, long script) throws IllegalArgumentException {
        requireArgument(isWithin(n, 1, MAX_COMMANDS));
        requireArgument(script >= 0 && withoutGroups(script, n) == 0);
        trial.copyFrom(studio);
        for (int i = 0; i < n; i++) {
            if (!tryGroup((int) (withoutGroups(script, n - 1 - i) % GROUP))) {
                return i;
            }
        }
        return NONE;
    }

    public int simulate(long seed, int m) throws IllegalArgumentException {
        requireArgument(isWithin(m, 1, MAX_TURNS));
        trial.copyFrom(studio);
        int used = 0;
        long x = seed;
        for (int turn = 0; turn < m; turn++) {
            x = x * SEED_FACTOR + SEED_STEP;
            used += tryTurn((int) (x >>> 33));
        }
        return 10000 * used + 100 * trial.lessonCount + trial.countSeats() % 100;
    }

    // ---- save slots

    public int save(int slot) throws IndexOutOfBoundsException {
        requireIndex(isWithin(slot, 0, SLOTS - 1));
        slots[slot].copyFrom(studio);
        slotFilled[slot] = true;
        return studio.weekCount;
    }

    public int restore(int slot) throws IndexOutOfBoundsException, IllegalStateException {
        requireIndex(isWithin(slot, 0, SLOTS - 1));
        requireState(slotFilled[slot]);
        studio.copyFrom(slots[slot]);
        history.forgetAll();
        return studio.weekCount;
    }

    // ---- what is asked of arguments

    private static boolean isWithin(int value, int low, int high) {
        return value >= low && value <= high;
    }

    private static void requireIndex(boolean exists) {
        if (!exists) {
            throw new IndexOutOfBoundsException("there is no such thing");
        }
    }

    private static void requireArgument(boolean inRange) {
        if (!inRange) {
            throw new IllegalArgumentException("an argument is out of range");
        }
    }

    private static void requireState(boolean possible) {
        if (!possible) {
            throw new IllegalStateException("this cannot be done now");
        }
    }

    private static void requireLessonArguments(int style, int level, int day, int hour) {
        requireArgument(isWithin(style, BALLET, ROUNDS));
        requireArgument(isWithin(level, 1, MAX_LEVEL));
        requireArgument(isWithin(day, 0, DAYS - 1));
        requireArgument(isWithin(hour, 0, HOURS - 1));
    }

    // ---- commands of texts, scripts and simulations

    private void beginAnew() {
        studio.makeNew();
        history.forgetAll();
        for (int i = 0; i < SLOTS; i++) {
            slotFilled[i] = false;
        }
    }

    private boolean doCommand(char letter, int[] n) {
        switch (letter) {
            case 'f': return studio.addFloor(n[0], n[1], n[2], n[3]) != NONE;
            case 't': return studio.addTeacher(n[0], n[1]) != NONE;
            case 'c': return studio.addLesson(n[0], n[1], n[2], n[3], n[4], n[5]) == DONE;
            case 'd': return studio.addDancer() != NONE;
            case 'p': return studio.givePass(n[0]) != NONE;
            case 'e': return studio.takeSeat(n[0], n[1]) == DONE;
            case 'l': return studio.giveUpSeat(n[0], n[1]) != NONE;
            case 'x': return studio.dropLesson(n[0]) != NONE;
            case 'w': return studio.passWeeks(n[0]) != NONE;
            default: return false;
        }
    }

    private static long withoutGroups(long script, int groups) {
        long rest = script;
        for (int i = 0; i < groups; i++) {
            rest /= GROUP;
        }
        return rest;
    }

    private boolean tryGroup(int group) {
        int second = group / 1000 % 10;
        int third = group / 100 % 10;
        int lastFour = group % 10000;
        int lastThree = group % 1000;
        int lastTwo = group % 100;
        switch (group / 10000) {
            case 1: return lastTwo == 0 && trial.takeSeat(second, third) == DONE;
            case 2: return lastTwo == 0 && trial.giveUpSeat(second, third) != NONE;
            case 3: return isWithin(lastFour, 1, MAX_WEEKS) && trial.passWeeks(lastFour) != NONE;
            case 4: return lastThree == 0 && trial.givePass(second) != NONE;
            case 5: return lastThree == 0 && trial.dropLesson(second) != NONE;
            case 6: return lastThree < 10 && trial.hasDancer(second) && trial.dancers[second].level >= lastThree;
            case 7: return third == 0 && trial.hasDancer(second) && trial.dancers[second].left >= lastTwo;
            case 8: return third == 0 && trial.hasLesson(second) && trial.lessons[second].countSeats() >= lastTwo;
            case 9: return second == 0 && third == 0 && trial.heldCount >= lastTwo;
            default: return false;
        }
    }

    /** Does one turn of a simulation and returns the uses in it. */
    private int tryTurn(int r) {
        int q = r / 16;
        switch (r % 16) {
            case 0:
                trial.addFloor(1 + q % 9, q / 16 % 5, q / 128 % 61, 1 + q / 8192 % 30);
                return 0;
            case 1:
                trial.addTeacher(q % 16, 1 + q / 16 % 5);
                return 0;
            case 2: case 3: case 4: case 5:
                trial.addLesson(q % 4, 1 + q / 4 % 5, q / 32 % 4, q / 128 % 5, q / 1024 % 6, q / 8192 % 6);
                return 0;
            case 6:
                trial.addDancer();
                return 0;
            case 7: case 8:
                trial.givePass(q % 12);
                return 0;
            case 9: case 10: case 11: case 12:
                trial.takeSeat(q % 12, q / 16 % 10);
                return 0;
            case 13:
                tryLeaving(q);
                return 0;
            default:
                return trial.passWeeks(1 + q % 2);
        }
    }

    private void tryLeaving(int q) {
        if (q / 256 % 4 == 0) {
            trial.giveUpSeat(q % 12, q / 16 % 10);
        } else if (q / 1024 % 4 == 0) {
            trial.dropLesson(q % 10);
        }
    }

    private static final class Floor {
        int spring;
        int mirrors;
        int barre;
        int places;

        void copyFrom(Floor other) {
            spring = other.spring;
            mirrors = other.mirrors;
            barre = other.barre;
            places = other.places;
        }

        boolean hasSpringFor(int style, int level) {
            switch (style) {
                case BALLET: return spring >= 4;
                case TAP: return spring <= 5;
                case LEAPS: return spring >= 3 + level;
                default: return true;
            }
        }

        boolean hasBarreFor(int style, int level) {
            return style != BALLET || barre >= 2 * level + 4;
        }

        boolean hasMirrorsFor(int style, int level) {
            switch (style) {
                case BALLET: return mirrors >= level / 2;
                case TAP: return mirrors >= 1;
                default: return true;
            }
        }

        int roomFor(int style) {
            return style == BALLET ? Math.min(places, barre / 2) : places;
        }
    }

    private static final class Teacher {
        int styles;
        int highest;

        void copyFrom(Teacher other) {
            styles = other.styles;
            highest = other.highest;
        }

        boolean teaches(int style, int level) {
            return (styles >> style & 1) == 1 && level <= highest;
        }
    }

    /** A class of the document; those who have a seat are kept as a set, bit d for the dancer d. */
    private static final class Lesson {
        int style;
        int level;
        int floor;
        int teacher;
        int day;
        int hour;
        int seats;
        int weeksHeld;
        int uses;

        void copyFrom(Lesson other) {
            style = other.style;
            level = other.level;
            floor = other.floor;
            teacher = other.teacher;
            day = other.day;
            hour = other.hour;
            seats = other.seats;
            weeksHeld = other.weeksHeld;
            uses = other.uses;
        }

        boolean isAt(int otherDay, int otherHour) {
            return day == otherDay && hour == otherHour;
        }

        boolean seatsDancer(int d) {
            return (seats >> d & 1) == 1;
        }

        int countSeats() {
            return Integer.bitCount(seats);
        }
    }

    private static final class Dancer {
        int level;
        int steps;
        int left;
        int passes;

        void copyFrom(Dancer other) {
            level = other.level;
            steps = other.steps;
            left = other.left;
            passes = other.passes;
        }

        int usesSoFar() {
            return USES_OF_PASS * passes - left;
        }

        void dance(int lessonLevel) {
            left--;
            steps += lessonLevel >= level ? lessonLevel : 1;
        }

        void riseWith(int stepsToLevel) {
            if (steps >= stepsToLevel && level < MAX_LEVEL) {
                level++;
                steps = 0;
            }
        }
    }

    /**
     * The state that actions change. The actions in it answer NONE, and change nothing, where a floor,
     * a teacher, a class or a dancer does not exist or the state forbids them.
     */
    private static final class Studio {
        final Floor[] floors;
        final Teacher[] teachers;
        final Lesson[] lessons;
        final Dancer[] dancers;
        final int[] settings;
        int floorCount;
        int teacherCount;
        int lessonCount;
        int dancerCount;
        int weekCount;
        int heldCount;
        int notHeldCount;
        int refusedCount;
        int usesOfDropped;

        Studio() {
            floors = new Floor[MAX_FLOORS];
            for (int f = 0; f < MAX_FLOORS; f++) {
                floors[f] = new Floor();
            }
            teachers = new Teacher[MAX_TEACHERS];
            for (int t = 0; t < MAX_TEACHERS; t++) {
                teachers[t] = new Teacher();
            }
            lessons = new Lesson[MAX_LESSONS];
            for (int k = 0; k < MAX_LESSONS; k++) {
                lessons[k] = new Lesson();
            }
            dancers = new Dancer[MAX_DANCERS];
            for (int d = 0; d < MAX_DANCERS; d++) {
                dancers[d] = new Dancer();
            }
            settings = new int[SETTINGS];
            makeNew();
        }

        void makeNew() {
            floorCount = 0;
            teacherCount = 0;
            lessonCount = 0;
            dancerCount = 0;
            weekCount = 0;
            heldCount = 0;
            notHeldCount = 0;
            refusedCount = 0;
            usesOfDropped = 0;
            settings[LEAST_DANCERS] = 2;
            settings[STEPS_TO_LEVEL] = 12;
        }

        void copyFrom(Studio other) {
            floorCount = other.floorCount;
            teacherCount = other.teacherCount;
            lessonCount = other.lessonCount;
            dancerCount = other.dancerCount;
            weekCount = other.weekCount;
            heldCount = other.heldCount;
            notHeldCount = other.notHeldCount;
            refusedCount = other.refusedCount;
            usesOfDropped = other.usesOfDropped;
            settings[LEAST_DANCERS] = other.settings[LEAST_DANCERS];
            settings[STEPS_TO_LEVEL] = other.settings[STEPS_TO_LEVEL];
            copyRowsFrom(other);
        }

        private void copyRowsFrom(Studio other) {
            for (int f = 0; f < floorCount; f++) {
                floors[f].copyFrom(other.floors[f]);
            }
            for (int t = 0; t < teacherCount; t++) {
                teachers[t].copyFrom(other.teachers[t]);
            }
            for (int k = 0; k < lessonCount; k++) {
                lessons[k].copyFrom(other.lessons[k]);
            }
            for (int d = 0; d < dancerCount; d++) {
                dancers[d].copyFrom(other.dancers[d]);
            }
        }

        boolean hasFloor(int f) {
            return f >= 0 && f < floorCount;
        }

        boolean hasTeacher(int t) {
            return t >= 0 && t < teacherCount;
        }

        boolean hasLesson(int k) {
            return k >= 0 && k < lessonCount;
        }

        boolean hasDancer(int d) {
            return d >= 0 && d < dancerCount;
        }

        boolean hasSeat(int d, int k) {
            return hasDancer(d) && hasLesson(k) && lessons[k].seatsDancer(d);
        }

        boolean mayHavePass(int d) {
            return hasDancer(d) && dancers[d].left < LEFT_FOR_NO_PASS;
        }

        int addFloor(int spring, int mirrors, int barre, int places) {
            if (floorCount >= MAX_FLOORS) {
                return NONE;
            }
            Floor floor = floors[floorCount];
            floor.spring = spring;
            floor.mirrors = mirrors;
            floor.barre = barre;
            floor.places = places;
            floorCount++;
            return floorCount - 1;
        }

        int addTeacher(int styles, int highest) {
            if (teacherCount >= MAX_TEACHERS) {
                return NONE;
            }
            Teacher teacher = teachers[teacherCount];
            teacher.styles = styles;
            teacher.highest = highest;
            teacherCount++;
            return teacherCount - 1;
        }

        int addDancer() {
            if (dancerCount >= MAX_DANCERS) {
                return NONE;
            }
            Dancer dancer = dancers[dancerCount];
            dancer.level = 1;
            dancer.steps = 0;
            dancer.left = 0;
            dancer.passes = 0;
            dancerCount++;
            return dancerCount - 1;
        }

        int addLesson(int style, int level, int f, int t, int day, int hour) {
            if (lessonCount >= MAX_LESSONS || !hasFloor(f) || !hasTeacher(t)) {
                return NONE;
            }
            int reason = reasonAgainstLesson(style, level, f, t, day, hour);
            if (reason != DONE) {
                return reason;
            }
            Lesson lesson = lessons[lessonCount];
            lesson.style = style;
            lesson.level = level;
            lesson.floor = f;
            lesson.teacher = t;
            lesson.day = day;
            lesson.hour = hour;
            lesson.seats = 0;
            lesson.weeksHeld = 0;
            lesson.uses = 0;
            lessonCount++;
            return DONE;
        }

        int dropLesson(int k) {
            if (!hasLesson(k)) {
                return NONE;
            }
            int seats = lessons[k].countSeats();
            usesOfDropped += lessons[k].uses;
            lessonCount--;
            for (int i = k; i < lessonCount; i++) {
                lessons[i].copyFrom(lessons[i + 1]);
            }
            return seats;
        }

        int givePass(int d) {
            if (!mayHavePass(d)) {
                return NONE;
            }
            dancers[d].passes++;
            dancers[d].left += USES_OF_PASS;
            return dancers[d].left;
        }

        int takeSeat(int d, int k) {
            if (!hasDancer(d) || !hasLesson(k)) {
                return NONE;
            }
            int reason = reasonAgainstSeat(d, k);
            if (reason == DONE) {
                lessons[k].seats |= 1 << d;
            }
            return reason;
        }

        int giveUpSeat(int d, int k) {
            if (!hasSeat(d, k)) {
                return NONE;
            }
            lessons[k].seats &= ~(1 << d);
            return lessons[k].countSeats();
        }

        int countRefusal(int reason) {
            if (reason != DONE) {
                refusedCount++;
            }
            return reason;
        }

        int reasonAgainstLesson(int style, int level, int f, int t, int day, int hour) {
            if (isFloorInUse(f, day, hour)) {
                return FLOOR_IN_USE;
            }
            if (isTeacherInUse(t, day, hour)) {
                return TEACHER_IN_USE;
            }
            if (!teachers[t].teaches(style, level)) {
                return NOT_TAUGHT;
            }
            if (!floors[f].hasSpringFor(style, level)) {
                return SPRING_UNSUITED;
            }
            if (!floors[f].hasBarreFor(style, level)) {
                return BARRE_TOO_SHORT;
            }
            return floors[f].hasMirrorsFor(style, level) ? DONE : MIRRORS_TOO_FEW;
        }

        private boolean isFloorInUse(int f, int day, int hour) {
            for (int k = 0; k < lessonCount; k++) {
                if (lessons[k].floor == f && lessons[k].isAt(day, hour)) {
                    return true;
                }
            }
            return false;
        }

        private boolean isTeacherInUse(int t, int day, int hour) {
            for (int k = 0; k < lessonCount; k++) {
                if (lessons[k].teacher == t && lessons[k].isAt(day, hour)) {
                    return true;
                }
            }
            return false;
        }

        int reasonAgainstSeat(int d, int k) {
            Lesson lesson = lessons[k];
            if (lesson.seatsDancer(d)) {
                return HAS_SEAT;
            }
            if (lesson.level > dancers[d].level + 1) {
                return LEVEL_TOO_HIGH;
            }
            if (isDancerSeatedAt(d, lesson.day, lesson.hour)) {
                return HOUR_IN_USE;
            }
            return lesson.countSeats() < roomIn(lesson) ? DONE : LESSON_FULL;
        }

        private boolean isDancerSeatedAt(int d, int day, int hour) {
            for (int k = 0; k < lessonCount; k++) {
                if (lessons[k].seatsDancer(d) && lessons[k].isAt(day, hour)) {
                    return true;
                }
            }
            return false;
        }

        int roomIn(Lesson lesson) {
            return floors[lesson.floor].roomFor(lesson.style);
        }

        int roomiestFloor(int style, int level, int t, int day, int hour) {
            int best = NONE;
            int most = 0;
            for (int f = 0; f < floorCount; f++) {
                int room = floors[f].roomFor(style);
                if (room > most && reasonAgainstLesson(style, level, f, t, day, hour) == DONE) {
                    best = f;
                    most = room;
                }
            }
            return best;
        }

        int passWeeks(int n) {
            int used = 0;
            for (int i = 0; i < n; i++) {
                used += passWeek();
            }
            return used;
        }

        /** Lets one week go by and returns the uses in it. */
        int passWeek() {
            weekCount++;
            int used = 0;
            for (int k = 0; k < lessonCount; k++) {
                used += holdLesson(lessons[k]);
            }
            for (int d = 0; d < dancerCount; d++) {
                dancers[d].riseWith(settings[STEPS_TO_LEVEL]);
            }
            return used;
        }

        private int holdLesson(Lesson lesson) {
            int comers = comersOf(lesson);
            int used = Integer.bitCount(comers);
            if (used < settings[LEAST_DANCERS]) {
                notHeldCount++;
                return 0;
            }
            for (int d = 0; d < dancerCount; d++) {
                if ((comers >> d & 1) == 1) {
                    dancers[d].dance(lesson.level);
                }
            }
            heldCount++;
            lesson.weeksHeld++;
            lesson.uses += used;
            return used;
        }

        /** Those who come to a class, as a set. */
        private int comersOf(Lesson lesson) {
            int comers = 0;
            for (int d = 0; d < dancerCount; d++) {
                if (lesson.seatsDancer(d) && dancers[d].left > 0) {
                    comers |= 1 << d;
                }
            }
            return comers;
        }

        int countSeats() {
            int seats = 0;
            for (int k = 0; k < lessonCount; k++) {
                seats += lessons[k].countSeats();
            }
            return seats;
        }

        int countSeatsOfDancer(int d) {
            int seats = 0;
            for (int k = 0; k < lessonCount; k++) {
                if (lessons[k].seatsDancer(d)) {
                    seats++;
                }
            }
            return seats;
        }

        int countLessonsOnFloor(int f) {
            int found = 0;
            for (int k = 0; k < lessonCount; k++) {
                if (lessons[k].floor == f) {
                    found++;
                }
            }
            return found;
        }

        int countLessonsOfTeacher(int t) {
            int found = 0;
            for (int k = 0; k < lessonCount; k++) {
                if (lessons[k].teacher == t) {
                    found++;
                }
            }
            return found;
        }

        int countDaysOfTeacher(int t) {
            int days = 0;
            for (int k = 0; k < lessonCount; k++) {
                if (lessons[k].teacher == t) {
                    days |= 1 << lessons[k].day;
                }
            }
            return Integer.bitCount(days);
        }

        int countPasses() {
            int passes = 0;
            for (int d = 0; d < dancerCount; d++) {
                passes += dancers[d].passes;
            }
            return passes;
        }

        int countLeft() {
            int left = 0;
            for (int d = 0; d < dancerCount; d++) {
                left += dancers[d].left;
            }
            return left;
        }

        int countUsesByDancers() {
            int uses = 0;
            for (int d = 0; d < dancerCount; d++) {
                uses += dancers[d].usesSoFar();
            }
            return uses;
        }

        int countUsesByLessons() {
            int uses = usesOfDropped;
            for (int k = 0; k < lessonCount; k++) {
                uses += lessons[k].uses;
            }
            return uses;
        }
    }

    /** The remembered states, as a ring: the oldest row is written over when all are in use. */
    private static final class History {
        final Studio[] rows;
        int oldest;
        int count;

        History() {
            rows = new Studio[MAX_REMEMBERED];
            for (int i = 0; i < MAX_REMEMBERED; i++) {
                rows[i] = new Studio();
            }
        }

        void remember(Studio studio) {
            rows[(oldest + count) % MAX_REMEMBERED].copyFrom(studio);
            if (count < MAX_REMEMBERED) {
                count++;
            } else {
                oldest = (oldest + 1) % MAX_REMEMBERED;
            }
        }

        int takeBack(Studio studio) {
            if (count > 0) {
                count--;
                studio.copyFrom(rows[(oldest + count) % MAX_REMEMBERED]);
            }
            return count;
        }

        void forgetAll() {
            oldest = 0;
            count = 0;
        }
    }

    /** The text buffer, read from left to right; where a read fails, at is the error position. */
    private static final class Text {
        final char[] signs;
        final int[] numbers;
        int length;
        int at;
        int numberCount;
        char letter;

        Text() {
            signs = new char[MAX_TEXT];
            numbers = new int[MAX_NUMBERS];
        }

        int addSign(char sign) {
            if (length < MAX_TEXT) {
                signs[length] = sign;
                length++;
            }
            return length;
        }

        int makeEmpty() {
            int previous = length;
            length = 0;
            return previous;
        }

        int findError() {
            if (!readStart()) {
                return at;
            }
            for (int i = 0; i < MAX_TEXT && hasMore(); i++) {
                if (!readCommand()) {
                    return at;
                }
            }
            return NONE;
        }

        boolean hasMore() {
            return at < length && at < MAX_TEXT;
        }

        boolean readStart() {
            at = 0;
            if (!hasMore() || signs[at] != 'S') {
                return false;
            }
            at++;
            return true;
        }

        /** Reads a command into letter and numbers. */
        boolean readCommand() {
            if (!hasMore()) {
                return false;
            }
            letter = signs[at];
            at++;
            numberCount = 0;
            switch (letter) {
                case 'f': return readDigit(1, 9) && readDigit(0, 4) && readTwoDigits(0, 60) && readTwoDigits(1, 30);
                case 't': return readTwoDigits(0, 15) && readDigit(1, MAX_LEVEL);
                case 'c': return readKind() && readPlace();
                case 'd': return true;
                case 'p': return readDancer();
                case 'e': case 'l': return readDancer() && readLesson();
                case 'x': return readLesson();
                case 'w': return readDigit(1, MAX_WEEKS);
                default:
                    at--;
                    return false;
            }
        }

        private boolean readKind() {
            return readDigit(BALLET, ROUNDS) && readDigit(1, MAX_LEVEL);
        }

        private boolean readPlace() {
            return readDigit(0, MAX_FLOORS - 1) && readDigit(0, MAX_TEACHERS - 1)
                    && readDigit(0, DAYS - 1) && readDigit(0, HOURS - 1);
        }

        private boolean readLesson() {
            return readDigit(0, MAX_LESSONS - 1);
        }

        private boolean readDancer() {
            return readTwoDigits(0, MAX_DANCERS - 1);
        }

        private boolean readDigit(int low, int high) {
            int digit = digitWithin(low, high);
            return digit != NONE && keepNumber(digit);
        }

        private boolean readTwoDigits(int low, int high) {
            int tens = digitWithin(low / 10, high / 10);
            if (tens == NONE) {
                return false;
            }
            int ones = digitWithin(Math.max(low - 10 * tens, 0), Math.min(high - 10 * tens, 9));
            return ones != NONE && keepNumber(10 * tens + ones);
        }

        private int digitWithin(int low, int high) {
            if (!hasMore() || !isWithin(signs[at] - '0', low, high)) {
                return NONE;
            }
            at++;
            return signs[at - 1] - '0';
        }

        private boolean keepNumber(int number) {
            if (numberCount >= MAX_NUMBERS) {
                return false;
            }
            numbers[numberCount] = number;
            numberCount++;
            return true;
        }
    }
}
