/** What all tests use: it compares answers, prints the wrong ones, and ends with exit code 1 if there was one. */
final class Checks {
    interface Call {
        long run();
    }

    private static int made = 0;
    private static int wrong = 0;

    private Checks() {
    }

    static String answerOf(Call call) {
        try {
            return Long.toString(call.run());
        } catch (RuntimeException e) {
            return "throws." + e.getClass().getSimpleName();
        }
    }

    static void due(String name, long want, Call call) {
        same(name, Long.toString(want), answerOf(call));
    }

    static void same(String name, Object want, Object got) {
        made++;
        if (!want.equals(got)) {
            wrong++;
            System.out.println(name + " answered " + got + ", due is " + want);
        }
    }

    /**
     * The call throws exactly this exception, and all counts stay as they were. (That nothing at all is changed,
     * BoundsOfExceptionsTest shows; here so many looks would not fit into the calls that an object has.)
     */
    static void dueThrow(DanceFloors x, String name, String exception, Call call) {
        String before = Studios.counts(x);
        same(name, "throws." + exception, answerOf(call));
        same(name + ": the counts behind it", before, Studios.counts(x));
    }

    static void dueIndex(DanceFloors x, String name, Call call) {
        dueThrow(x, name, "IndexOutOfBoundsException", call);
    }

    static void dueArgument(DanceFloors x, String name, Call call) {
        dueThrow(x, name, "IllegalArgumentException", call);
    }

    static void dueState(DanceFloors x, String name, Call call) {
        dueThrow(x, name, "IllegalStateException", call);
    }

    static void end() {
        System.out.println(made + " checks, " + wrong + " wrong");
        if (wrong != 0) {
            System.exit(1);
        }
    }
}
