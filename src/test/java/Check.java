/** Counts answers that are as due and prints those that are not, each with the sentence of the document it is due to. */
final class Check {
    static int passed = 0;
    static int failed = 0;

    private static String sentence = "";
    private static int checkedBefore = 0;

    private Check() {
    }

    interface Call {
        Object answer();
    }

    /** Names the sentence of ../shared/DOC.md, word by word, that the checks behind this call hold the class to. */
    static void about(String where, String words) {
        needChecks();
        sentence = where + ", \"" + words + "\": ";
        checkedBefore = passed + failed;
    }

    private static void needChecks() {
        if (!sentence.isEmpty() && passed + failed == checkedBefore) {
            failed++;
            System.out.println(sentence + "no check stands behind it");
        }
    }

    /** What a call answers: its value as a text, or "throws." and the exact class of the exception. */
    static String answerOf(Call call) {
        try {
            return String.valueOf(call.answer());
        } catch (RuntimeException e) {
            return "throws." + e.getClass().getSimpleName();
        }
    }

    static void due(String name, Object want, Call call) {
        String got = answerOf(call);
        if (got.equals(String.valueOf(want))) {
            passed++;
        } else {
            failed++;
            System.out.println(sentence + name + " answered " + got + ", due is " + want);
        }
    }

    static void noIndex(String name, Call call) {
        due(name, "throws.IndexOutOfBoundsException", call);
    }

    static void noArgument(String name, Call call) {
        due(name, "throws.IllegalArgumentException", call);
    }

    static void noState(String name, Call call) {
        due(name, "throws.IllegalStateException", call);
    }

    /** Prints the closing line and ends the program with 1 if an answer was wrong. */
    static void close() {
        needChecks();
        System.out.println(passed + " passed, " + failed + " failed");
        if (failed > 0) {
            System.exit(1);
        }
    }
}
