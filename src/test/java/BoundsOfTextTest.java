import java.util.ArrayList;
import java.util.List;

/** TEXT, and promises 2 to 5: every sign at every place, every end that comes too soon, and the 120 characters. */
public final class BoundsOfTextTest {
    private static final int NONE = DanceFloors.NONE;
    private static final String LETTERS = "ftcdpelxw";

    /** A letter, and behind it for each number the ways to write it. */
    private record Command(char letter, List<List<String>> numbers) {
        /** The command up to number i, each number written in its first way or in its last one. */
        String upTo(int i, boolean last) {
            StringBuilder text = new StringBuilder().append(letter);
            for (List<String> ways : numbers.subList(0, i)) {
                text.append(ways.get(last ? ways.size() - 1 : 0));
            }
            return text.toString();
        }

        String whole(boolean last) {
            return upTo(numbers.size(), last);
        }
    }

    public static void main(String[] args) {
        appendTakesEveryCode();
        appendTakesOneHundredAndTwenty();
        clearTextTellsTheLength();
        textBeginsWithS();
        everySignBeginsACommandOrNot();
        for (Command command : commands()) {
            everySignAtEveryPlaceOf(command);
            everySignBehind(command);
            everyEndTooSoonOf(command);
        }
        firstOfSeveralErrorsIsTold();
        fullTextsAreRead();
        loadDoesFullTexts();
        Checks.end();
    }

    private static List<Command> commands() {
        List<String> dancer = number(0, 11, 2);
        List<String> lesson = number(0, 9, 1);
        return List.of(
                new Command('f', List.of(number(1, 9, 1), number(0, 4, 1), number(0, 60, 2), number(1, 30, 2))),
                new Command('t', List.of(number(0, 15, 2), number(1, 5, 1))),
                new Command('c', List.of(number(0, 3, 1), number(1, 5, 1), number(0, 3, 1), number(0, 4, 1),
                        number(0, 5, 1), number(0, 5, 1))),
                new Command('d', List.of()),
                new Command('p', List.of(dancer)),
                new Command('e', List.of(dancer, lesson)),
                new Command('l', List.of(dancer, lesson)),
                new Command('x', List.of(lesson)),
                new Command('w', List.of(number(1, 9, 1))));
    }

    private static List<String> number(int low, int high, int digits) {
        List<String> ways = new ArrayList<>();
        for (int i = low; i <= high; i++) {
            ways.add(String.format("%0" + digits + "d", i));
        }
        return ways;
    }

    private static void error(String text, int due) {
        DanceFloors x = new DanceFloors();
        Studios.type(x, text);
        Checks.due("errorPosition() of " + text, due, x::errorPosition);
        Checks.due("errorPosition() again of " + text, due, x::errorPosition);
        Checks.due("clearText() behind errorPosition() of " + text, text.length(), x::clearText);
    }

    private static void appendTakesEveryCode() {
        for (int code = 0; code <= 255; code++) {
            int c = code;
            DanceFloors x = new DanceFloors();
            Checks.due("append(" + c + ")", 1, () -> x.append(c));
            Checks.due("errorPosition() of " + c, c == 'S' ? NONE : 0, x::errorPosition);
        }
    }

    private static void appendTakesOneHundredAndTwenty() {
        DanceFloors x = new DanceFloors();
        Studios.type(x, "S" + "d".repeat(118));
        Checks.due("append of the 120th", 120, () -> x.append('d'));
        Checks.due("errorPosition() of 120", NONE, x::errorPosition);
        Checks.same("append of the 121st", "throws.IllegalStateException", Checks.answerOf(() -> x.append('?')));
        Checks.due("errorPosition() behind it", NONE, x::errorPosition);
        Checks.same("append of a wrong 121st: the argument is named first", "throws.IllegalArgumentException",
                Checks.answerOf(() -> x.append(-1)));
        Checks.due("clearText() behind it", 120, x::clearText);
    }

    private static void clearTextTellsTheLength() {
        for (int length = 0; length <= 120; length++) {
            DanceFloors x = new DanceFloors();
            Studios.type(x, "S".repeat(length));
            Checks.due("clearText() of " + length, length, x::clearText);
            Checks.due("clearText() of nothing", 0, x::clearText);
            Checks.due("append behind clearText()", 1, () -> x.append('S'));
            Checks.due("errorPosition() of the new text", NONE, x::errorPosition);
        }
    }

    private static void textBeginsWithS() {
        error("", 0);
        for (char sign = 0; sign <= 255; sign++) {
            error("" + sign, sign == 'S' ? NONE : 0);
            error(sign + "d", sign == 'S' ? NONE : 0);
        }
    }

    /** What a text may tell behind a command, or behind the S. */
    private static int dueOfNext(String before, char sign) {
        return sign == 'd' ? NONE : LETTERS.indexOf(sign) < 0 ? before.length() : before.length() + 1;
    }

    private static void everySignBeginsACommandOrNot() {
        for (char sign = 0; sign <= 255; sign++) {
            error("S" + sign, dueOfNext("S", sign));
        }
    }

    private static void everySignBehind(Command command) {
        String before = "S" + command.whole(true);
        for (char sign = 0; sign <= 255; sign++) {
            error(before + sign, dueOfNext(before, sign));
        }
    }

    private static void everySignAtEveryPlaceOf(Command command) {
        for (int i = 0; i < command.numbers().size(); i++) {
            String before = "S" + command.upTo(i, i % 2 == 0);
            boolean isLast = i == command.numbers().size() - 1;
            everySignOfNumber(before, command.numbers().get(i), isLast);
        }
    }

    private static void everySignOfNumber(String before, List<String> ways, boolean isLast) {
        everySignBehindDigits(before, "", ways, isLast);
        if (ways.get(0).length() == 2) {
            for (char tens = '0'; tens <= '9'; tens++) {
                String digit = "" + tens;
                if (ways.stream().anyMatch(way -> way.startsWith(digit))) {
                    everySignBehindDigits(before, digit, ways, isLast);
                }
            }
        }
    }

    private static void everySignBehindDigits(String before, String digits, List<String> ways, boolean isLast) {
        for (char sign = 0; sign <= 255; sign++) {
            String written = digits + sign;
            String text = before + written;
            boolean isAllowed = ways.stream().anyMatch(way -> way.startsWith(written));
            boolean isWhole = isLast && ways.contains(written);
            error(text, isWhole ? NONE : isAllowed ? text.length() : text.length() - 1);
        }
    }

    private static void everyEndTooSoonOf(Command command) {
        for (String whole : new String[] {command.whole(false), command.whole(true)}) {
            for (int length = 1; length < whole.length(); length++) {
                error("S" + whole.substring(0, length), 1 + length);
                error("Sdw1" + whole.substring(0, length), 4 + length);
            }
            error("S" + whole, NONE);
            error("S" + whole + whole, NONE);
        }
    }

    private static void firstOfSeveralErrorsIsTold() {
        error("??", 0);
        error("S??", 1);
        error("Sw0x:", 2);
        error("Sd Sd", 2);
        error("Sp12?", 3);
        error("Sf1?", 3);
    }

    private static void fullTextsAreRead() {
        String begin = "S" + "d".repeat(110);
        error(begin + "c35345" + "5dd", NONE);
        error(begin + "ddf946030", NONE);
        error(begin + "ddf946031", 119);
        error(begin + "ddddddddw", 120);
        error(begin + "dddddf946", 120);
        error(begin + "dddddddd?", 119);
        error(begin + "dddddddde", 120);
        error("?" + "d".repeat(119), 0);
    }

    private static void loadDoesFullTexts() {
        loads("S" + "d".repeat(119), 107, 3, 12);
        loads("S" + "d".repeat(117) + "w9", 105, 4, 9);
        loads("S" + "w9".repeat(59) + "d", 0, 4, 531);
        loads("S" + "w9".repeat(59) + "d", 0, 3, 1);
    }

    private static void loads(String text, int leftOut, int what, int due) {
        DanceFloors x = new DanceFloors();
        Studios.type(x, text);
        Checks.due("load() of " + text, leftOut, x::load);
        Checks.due("about(" + what + ") behind it", due, () -> x.about(what));
    }
}
