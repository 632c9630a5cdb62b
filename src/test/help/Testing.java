import java.util.function.Supplier;

/** What the tests share: the report of wrong answers, and objects brought into a state. */
abstract class Testing {
    static final String NO_ELEMENT = "throws.NoSuchElementException";
    static final String NO_STATE = "throws.IllegalStateException";
    static final String NO_ARGUMENT = "throws.IllegalArgumentException";
    static final String NO_INDEX = "throws.IndexOutOfBoundsException";
    /** Beside both ends of a to z, what looks like a letter, and the ends of char. */
    static final String WRONG_LETTERS = "`{AZ0 \u0000\u007f\u00e9\u0161\uff41\uffff";

    private static int wrong = 0;
    private static String subject = "";

    /** Names what the answers asked from here on are about. */
    static void about(String words) {
        subject = words;
    }

    static int wrongAnswers() {
        return wrong;
    }

    static void due(int want, Supplier<?> call) {
        due(Integer.toString(want), call);
    }

    static void due(String want, Supplier<?> call) {
        String got = answer(call);
        if (!got.equals(want)) {
            wrong++;
            System.out.println(subject + " (" + line() + "): answered " + got + ", due is " + want);
        }
    }

    static String answer(Supplier<?> call) {
        try {
            return String.valueOf(call.get());
        } catch (RuntimeException thrown) {
            return "throws." + thrown.getClass().getSimpleName();
        }
    }

    private static String line() {
        for (StackTraceElement frame : new Throwable().getStackTrace()) {
            if (!frame.getClassName().equals("Testing")) {
                return frame.getFileName() + ":" + frame.getLineNumber();
            }
        }
        return "?";
    }

    static void finish(String name) {
        System.out.println(name + (wrong == 0 ? ": all answers are as due" : ": " + wrong + " answers are not as due"));
        System.exit(wrong == 0 ? 0 : 1);
    }

    // ---- objects in a state

    static Ahoarch with(String... patterns) {
        Ahoarch x = new Ahoarch();
        for (String pattern : patterns) {
            enter(x, pattern);
        }
        return x;
    }

    static void enter(Ahoarch x, String pattern) {
        draft(x, pattern);
        x.enter();
    }

    static void replaceBy(Ahoarch x, int pattern, String letters) {
        draft(x, letters);
        x.setReplacement(pattern);
    }

    static void draft(Ahoarch x, String letters) {
        for (char letter : letters.toCharArray()) {
            x.draft(letter);
        }
    }

    static void feed(Ahoarch x, String letters) {
        for (char letter : letters.toCharArray()) {
            x.feed(letter);
        }
    }

    /** Two letters that no other number has; numbers from 0 on. */
    static String pair(int number) {
        return "" + (char) ('a' + number / 26) + (char) ('a' + number % 26);
    }

    static String replaced(Ahoarch x, int rule) {
        StringBuilder letters = new StringBuilder();
        int size = x.replacedLength(rule);
        for (int index = 0; index < size; index++) {
            letters.append(x.replaced(rule, index));
        }
        return letters.toString();
    }
}
