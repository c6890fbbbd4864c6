/** Counts what is not as it is due, and prints it. */
final class Check {
    private final String name;
    private int checked;
    private int wrong;

    Check(String name) {
        this.name = name;
    }

    /** A call that is expected to throw. */
    interface Call {
        long answer();
    }

    void same(String what, long got, long due) {
        same(what, Long.toString(got), Long.toString(due));
    }

    void same(String what, String got, String due) {
        checked++;
        if (!got.equals(due)) {
            wrong++;
            System.out.println(name + ": " + what + " answered " + got + ", due is " + due);
        }
    }

    void noIndex(String what, Call call) {
        same(what, answerOf(call), "throws.IndexOutOfBoundsException");
    }

    void noArgument(String what, Call call) {
        same(what, answerOf(call), "throws.IllegalArgumentException");
    }

    void noState(String what, Call call) {
        same(what, answerOf(call), "throws.IllegalStateException");
    }

    /** The answer as a text, or throws. and the exact class of what it throws. */
    static String answerOf(Call call) {
        try {
            return Long.toString(call.answer());
        } catch (RuntimeException e) {
            return "throws." + e.getClass().getSimpleName();
        }
    }

    void end() {
        System.out.println(name + ": " + checked + " checked, " + wrong + " wrong");
        if (wrong != 0) {
            System.exit(1);
        }
    }
}
