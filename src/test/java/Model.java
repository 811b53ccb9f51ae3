import java.util.ArrayDeque;
import java.util.ArrayList;
import java.util.List;
import java.util.Set;
import java.util.TreeSet;
import java.util.regex.Matcher;
import java.util.regex.Pattern;

/**
 * The document once more, written apart from the program in another way: lists, sets, deep copies, exceptions
 * and a regular expression for texts.
 */
final class Model {
    private static final class Hours {
        int style;
        int level;
        int f;
        int t;
        int slot;
        int weeks;
        int uses;
        Set<Integer> seats = new TreeSet<>();

        Hours copy() {
            Hours c = new Hours();
            c.style = style;
            c.level = level;
            c.f = f;
            c.t = t;
            c.slot = slot;
            c.weeks = weeks;
            c.uses = uses;
            c.seats.addAll(seats);
            return c;
        }
    }

    /** Dancers are rows of level, steps, left, used, passes. */
    private static final class State {
        List<int[]> floors = new ArrayList<>();
        List<int[]> teachers = new ArrayList<>();
        List<Hours> hours = new ArrayList<>();
        List<int[]> dancers = new ArrayList<>();
        int[] settings = {2, 12};
        int weeks;
        int heldSoFar;
        int notHeld;
        int refused;
        int droppedUses;

        State copy() {
            State c = new State();
            floors.forEach(r -> c.floors.add(r.clone()));
            teachers.forEach(r -> c.teachers.add(r.clone()));
            hours.forEach(r -> c.hours.add(r.copy()));
            dancers.forEach(r -> c.dancers.add(r.clone()));
            c.settings = settings.clone();
            c.weeks = weeks;
            c.heldSoFar = heldSoFar;
            c.notHeld = notHeld;
            c.refused = refused;
            c.droppedUses = droppedUses;
            return c;
        }
    }

    private static final Pattern COMMAND = Pattern.compile("f[1-9][0-4]([0-5]\\d|60)(0[1-9]|[12]\\d|30)"
            + "|t(0\\d|1[0-5])[1-5]|c[0-3][1-5][0-3][0-4][0-5][0-5]|d|p(0\\d|1[01])|[el](0\\d|1[01])\\d|x\\d|w[1-9]");
    private static final Pattern STUDIO = Pattern.compile("S(" + COMMAND + ")*");

    private String text = "";
    private State now = new State();
    private final ArrayDeque<State> past = new ArrayDeque<>();
    private final State[] slots = new State[2];

    private static void index(int i, int size) {
        if (i < 0 || i >= size) {
            throw new IndexOutOfBoundsException();
        }
    }

    private static void range(long v, long low, long high) {
        if (v < low || v > high) {
            throw new IllegalArgumentException();
        }
    }

    private static void state(boolean ok) {
        if (!ok) {
            throw new IllegalStateException();
        }
    }

    private void act() {
        past.addLast(now.copy());
        if (past.size() > 14) {
            past.removeFirst();
        }
    }

    int append(int c) {
        range(c, 0, 255);
        state(text.length() < 120);
        text += (char) c;
        return text.length();
    }

    int clearText() {
        int n = text.length();
        text = "";
        return n;
    }

    int errorPosition() {
        for (int i = 1; i <= text.length(); i++) {
            Matcher m = STUDIO.matcher(text.substring(0, i));
            if (!m.matches() && !m.hitEnd()) {
                return i - 1;
            }
        }
        return STUDIO.matcher(text).matches() ? -1 : text.length();
    }

    int load() {
        state(errorPosition() == -1);
        now = new State();
        int left = 0;
        Matcher m = COMMAND.matcher(text.substring(1));
        while (m.find()) {
            try {
                left += command(m.group()) ? 0 : 1;
            } catch (RuntimeException e) {
                left++;
            }
        }
        now.refused = 0;
        past.clear();
        slots[0] = null;
        slots[1] = null;
        return left;
    }

    private boolean command(String c) {
        int[] digit = c.substring(1).chars().map(x -> x - '0').toArray();
        int two = digit.length < 2 ? 0 : 10 * digit[0] + digit[1];
        switch (c.charAt(0)) {
            case 'f': floor(digit[0], digit[1], 10 * digit[2] + digit[3], 10 * digit[4] + digit[5]); return true;
            case 't': teacher(two, digit[2]); return true;
            case 'c': return set(digit[0], digit[1], digit[2], digit[3], digit[4], digit[5]) == 0;
            case 'd': dancer(); return true;
            case 'p': pass(two); return true;
            case 'e': return enter(two, digit[2]) == 0;
            case 'l': leave(two, digit[2]); return true;
            case 'x': drop(digit[0]); return true;
            default: weeks(digit[0]); return true;
        }
    }

    int about(int what) {
        range(what, 0, 11);
        int seats = now.hours.stream().mapToInt(h -> h.seats.size()).sum();
        int passes = now.dancers.stream().mapToInt(d -> d[4]).sum();
        int left = now.dancers.stream().mapToInt(d -> d[2]).sum();
        return new int[] {now.floors.size(), now.teachers.size(), now.hours.size(), now.dancers.size(), now.weeks,
            seats, passes, uses(1), left, now.heldSoFar, now.notHeld, now.refused}[what];
    }

    int floorOf(int f, int what) {
        index(f, now.floors.size());
        range(what, 0, 5);
        int n = (int) now.hours.stream().filter(h -> h.f == f).count();
        return what < 4 ? now.floors.get(f)[what] : what == 4 ? n : 36 - n;
    }

    int teacherOf(int t, int what) {
        index(t, now.teachers.size());
        range(what, 0, 3);
        if (what < 2) {
            return now.teachers.get(t)[what];
        }
        return (int) (what == 2 ? now.hours.stream().filter(h -> h.t == t).count()
                : now.hours.stream().filter(h -> h.t == t).map(h -> h.slot / 6).distinct().count());
    }

    int classOf(int k, int what) {
        index(k, now.hours.size());
        range(what, 0, 9);
        Hours h = now.hours.get(k);
        return new int[] {h.style, h.level, h.f, h.t, h.slot / 6, h.slot % 6, takes(h.style, h.f), h.seats.size(),
            h.weeks, h.uses}[what];
    }

    int dancerOf(int d, int what) {
        index(d, now.dancers.size());
        range(what, 0, 5);
        return what < 5 ? now.dancers.get(d)[what] : (int) now.hours.stream().filter(h -> h.seats.contains(d)).count();
    }

    int uses(int way) {
        range(way, 0, 1);
        return way == 0 ? now.dancers.stream().mapToInt(d -> d[3]).sum()
                : now.droppedUses + now.hours.stream().mapToInt(h -> h.uses).sum();
    }

    int setting(int what) {
        range(what, 0, 1);
        return now.settings[what];
    }

    int floor(int spring, int mirrors, int barre, int places) {
        range(spring, 1, 9);
        range(mirrors, 0, 4);
        range(barre, 0, 60);
        range(places, 1, 30);
        state(now.floors.size() < 4);
        act();
        now.floors.add(new int[] {spring, mirrors, barre, places});
        return now.floors.size() - 1;
    }

    int teacher(int styles, int highest) {
        range(styles, 0, 15);
        range(highest, 1, 5);
        state(now.teachers.size() < 5);
        act();
        now.teachers.add(new int[] {styles, highest});
        return now.teachers.size() - 1;
    }

    int set(int style, int level, int f, int t, int day, int hour) {
        int reason = why(style, level, f, t, day, hour);
        state(now.hours.size() < 10);
        act();
        if (reason != 0) {
            now.refused++;
            return reason;
        }
        Hours h = new Hours();
        h.style = style;
        h.level = level;
        h.f = f;
        h.t = t;
        h.slot = 6 * day + hour;
        now.hours.add(h);
        return 0;
    }

    int drop(int k) {
        index(k, now.hours.size());
        act();
        Hours h = now.hours.remove(k);
        now.droppedUses += h.uses;
        return h.seats.size();
    }

    int dancer() {
        state(now.dancers.size() < 12);
        act();
        now.dancers.add(new int[] {1, 0, 0, 0, 0});
        return now.dancers.size() - 1;
    }

    int pass(int d) {
        index(d, now.dancers.size());
        state(now.dancers.get(d)[2] < 90);
        act();
        now.dancers.get(d)[4]++;
        return now.dancers.get(d)[2] += 10;
    }

    int enter(int d, int k) {
        int reason = whySeat(d, k);
        act();
        if (reason == 0) {
            now.hours.get(k).seats.add(d);
        } else {
            now.refused++;
        }
        return reason;
    }

    int leave(int d, int k) {
        index(d, now.dancers.size());
        index(k, now.hours.size());
        state(now.hours.get(k).seats.contains(d));
        act();
        now.hours.get(k).seats.remove(d);
        return now.hours.get(k).seats.size();
    }

    int weeks(int n) {
        range(n, 1, 9);
        act();
        int before = uses(0);
        for (int i = 0; i < n; i++) {
            week();
        }
        return uses(0) - before;
    }

    private void week() {
        now.weeks++;
        for (Hours h : now.hours) {
            List<int[]> come = new ArrayList<>();
            h.seats.stream().map(now.dancers::get).filter(d -> d[2] > 0).forEach(come::add);
            if (come.size() < now.settings[0]) {
                now.notHeld++;
                continue;
            }
            now.heldSoFar++;
            h.weeks++;
            h.uses += come.size();
            for (int[] d : come) {
                d[2]--;
                d[3]++;
                d[1] += h.level < d[0] ? 1 : h.level;
            }
        }
        now.dancers.stream().filter(d -> d[0] != 5 && d[1] >= now.settings[1]).forEach(d -> {
            d[0]++;
            d[1] = 0;
        });
    }

    int tune(int what, int v) {
        range(what, 0, 1);
        range(v, 1, what == 0 ? 9 : 50);
        act();
        int old = now.settings[what];
        now.settings[what] = v;
        return old;
    }

    int undo() {
        state(!past.isEmpty());
        now = past.removeLast();
        return past.size();
    }

    int why(int style, int level, int f, int t, int day, int hour) {
        index(f, now.floors.size());
        index(t, now.teachers.size());
        range(style, 0, 3);
        range(level, 1, 5);
        range(day, 0, 5);
        range(hour, 0, 5);
        int slot = 6 * day + hour;
        int[] floor = now.floors.get(f);
        int[] teacher = now.teachers.get(t);
        int[] low = {4, 1, 3 + level, 1};
        int[] high = {9, 5, 9, 9};
        int[] barre = {2 * level + 4, 0, 0, 0};
        int[] mirrors = {level / 2, 1, 0, 0};
        return now.hours.stream().anyMatch(h -> h.f == f && h.slot == slot) ? 1
                : now.hours.stream().anyMatch(h -> h.t == t && h.slot == slot) ? 2
                : (teacher[0] & 1 << style) == 0 || level > teacher[1] ? 3
                : floor[0] < low[style] || floor[0] > high[style] ? 4
                : floor[2] < barre[style] ? 5 : floor[1] < mirrors[style] ? 6 : 0;
    }

    private int takes(int style, int f) {
        int[] floor = now.floors.get(f);
        return style == 0 && floor[2] / 2 < floor[3] ? floor[2] / 2 : floor[3];
    }

    int whySeat(int d, int k) {
        index(d, now.dancers.size());
        index(k, now.hours.size());
        Hours h = now.hours.get(k);
        return h.seats.contains(d) ? 1
                : h.level - now.dancers.get(d)[0] > 1 ? 2
                : now.hours.stream().anyMatch(o -> o != h && o.slot == h.slot && o.seats.contains(d)) ? 3
                : h.seats.size() >= takes(h.style, h.f) ? 4 : 0;
    }

    int bestFloor(int style, int level, int t, int day, int hour) {
        index(t, now.teachers.size());
        range(style, 0, 3);
        range(level, 1, 5);
        range(day, 0, 5);
        range(hour, 0, 5);
        int best = -1;
        for (int f = now.floors.size() - 1; f >= 0; f--) {
            if (why(style, level, f, t, day, hour) == 0 && (best < 0 || takes(style, f) >= takes(style, best))) {
                best = f;
            }
        }
        return best;
    }

    private Model trial() {
        Model m = new Model();
        m.now = now.copy();
        return m;
    }

    int emptyIn(int d) {
        index(d, now.dancers.size());
        Model m = trial();
        for (int n = 0; n <= 100; n++) {
            if (m.now.dancers.get(d)[2] == 0) {
                return n;
            }
            m.week();
        }
        return -1;
    }

    int held() {
        Model m = trial();
        m.week();
        int set = 0;
        for (int k = 0; k < now.hours.size(); k++) {
            set += m.now.hours.get(k).weeks == now.hours.get(k).weeks ? 0 : 1 << k;
        }
        return set;
    }

    int runScript(int n, long script) {
        range(n, 1, 3);
        range(script, 0, (long) Math.pow(10, 5 * n) - 1);
        String all = String.format("%0" + 5 * n + "d", script);
        Model m = trial();
        for (int i = 0; i < n; i++) {
            try {
                if (!m.group(all.substring(5 * i, 5 * i + 5))) {
                    return i;
                }
            } catch (RuntimeException e) {
                return i;
            }
        }
        return -1;
    }

    private boolean group(String g) {
        int a = g.charAt(1) - '0';
        int b = g.charAt(2) - '0';
        int last = g.charAt(4) - '0';
        int two = Integer.parseInt(g.substring(3));
        if (g.matches("1..00")) {
            return enter(a, b) == 0;
        }
        if (g.matches("2..00")) {
            return leave(a, b) >= 0;
        }
        if (g.matches("3000.")) {
            return weeks(last) >= 0;
        }
        if (g.matches("4.000")) {
            return pass(a) >= 0;
        }
        if (g.matches("5.000")) {
            return drop(a) >= 0;
        }
        if (g.matches("6.00.")) {
            return dancerOf(a, 0) >= last;
        }
        if (g.matches("7.0..")) {
            return dancerOf(a, 2) >= two;
        }
        if (g.matches("8.0..")) {
            return classOf(a, 7) >= two;
        }
        return g.matches("900..") && about(9) >= two;
    }

    int simulate(long seed, int m) {
        range(m, 1, 100);
        Model copy = trial();
        long x = seed;
        for (int i = 0; i < m; i++) {
            x = x * 6364136223846793005L + 1442695040888963407L;
            int r = (int) (x >>> 33);
            Checks.answerOf(() -> copy.turn(r % 16, r / 16));
        }
        return 10000 * (copy.uses(1) - uses(1)) + 100 * copy.about(2) + copy.about(5) % 100;
    }

    private int turn(int kind, int q) {
        switch (kind) {
            case 0:
                return floor(1 + q % 9, (q / 16) % 5, (q / 128) % 61, 1 + (q / 8192) % 30);
            case 1:
                return teacher(q % 16, 1 + (q / 16) % 5);
            case 2: case 3: case 4: case 5:
                return set(q % 4, 1 + (q / 4) % 5, (q / 32) % 4, (q / 128) % 5, (q / 1024) % 6, (q / 8192) % 6);
            case 6:
                return dancer();
            case 7: case 8:
                return pass(q % 12);
            case 9: case 10: case 11: case 12:
                return enter(q % 12, (q / 16) % 10);
            case 13:
                return (q / 256) % 4 == 0 ? leave(q % 12, (q / 16) % 10) : (q / 1024) % 4 == 0 ? drop(q % 10) : 0;
            default:
                return weeks(1 + q % 2);
        }
    }

    int save(int slot) {
        index(slot, 2);
        slots[slot] = now.copy();
        return now.weeks;
    }

    int restore(int slot) {
        index(slot, 2);
        state(slots[slot] != null);
        now = slots[slot].copy();
        past.clear();
        return now.weeks;
    }
}
