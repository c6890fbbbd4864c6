import java.util.LinkedHashMap;
import java.util.Map;

/** Counts what is not as it is due, and prints it. */
final class Check {
    private final String name;
    private int checked;
    private int wrong;
    /** The sentence of the document that the checks are about now; empty before the first one. */
    private String sentence = "";
    private final Map<String, Integer> checksOf = new LinkedHashMap<>();

    Check(String name) {
        this.name = name;
    }

    /** A call that is expected to throw. */
    interface Call {
        long answer();
    }

    /** All checks from here on are about these words of this section of the document. */
    void sentence(String section, String words) {
        sentence = section + ": " + words;
        checksOf.putIfAbsent(sentence, 0);
    }

    /** How often each sentence was checked. */
    Map<String, Integer> checksOfSentences() {
        return checksOf;
    }

    void same(String what, long got, long due) {
        same(what, Long.toString(got), Long.toString(due));
    }

    void same(String what, String got, String due) {
        checked++;
        checksOf.computeIfPresent(sentence, (words, checks) -> checks + 1);
        if (!got.equals(due)) {
            wrong++;
            System.out.println(name + ": " + what + " answered " + got + ", due is " + due
                + (sentence.isEmpty() ? "" : "\n    by " + sentence));
        }
    }

    void noIndex(String what, Call call) {
        same(what, answerOf(call), "throws.IndexOutOfBoundsException");
    }

    void noArgument(String what, Call call) {
        same(what, answerOf(call), "throws.IllegalArgumentException");
    }

    void noState(String what, Call call) {
        same(what, answerOf(call), "throws.IllegalStateException");
    }

    /** The answer as a text, or throws. and the exact class of what it throws. */
    static String answerOf(Call call) {
        try {
            return Long.toString(call.answer());
        } catch (RuntimeException e) {
            return "throws." + e.getClass().getSimpleName();
        }
    }

    void end() {
        System.out.println(name + ": " + checked + " checked, " + wrong + " wrong");
        if (wrong != 0) {
            System.exit(1);
        }
    }
}
