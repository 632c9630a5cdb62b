import java.util.ArrayList;
import java.util.List;
import java.util.function.BiFunction;
import java.util.function.Function;
import java.util.function.Supplier;

/**
 * What the tests of the document's boundary cases share: objects in the states that are asked,
 * and that a refused call changed nothing. No object is used for more than the 512 calls that
 * the document promises.
 */
abstract class Boundaries extends Testing {
    static final int LEAST = Integer.MIN_VALUE;
    static final int MOST = Integer.MAX_VALUE;
    static final String EIGHT = "abcdefgh";

    // ---- objects in the states that are asked

    /** Patterns 0, 2 and 3 (1 was taken out), two replacements, a stream and a draft of two letters. */
    static Ahoarch busy() {
        Ahoarch x = with("ab", "q", "abc", "b");
        x.takeOut(1);
        replaceBy(x, 0, "klm");
        replaceBy(x, 3, "n");
        feed(x, "zabcbab");
        return withDraft(x, "pq");
    }

    /** A stream of so many letters, the pattern 0 of 8 letters again and again, with a draft of two. */
    static Ahoarch streamOf(int size) {
        Ahoarch x = with(EIGHT, "a", "h");
        replaceBy(x, 0, "kl");
        for (int times = 0; times < size / 8; times++) {
            x.feedPattern(0);
        }
        feed(x, EIGHT.substring(0, size % 8));
        return withDraft(x, "pq");
    }

    static Ahoarch fullStream() {
        return streamOf(200);
    }

    static Ahoarch patternsOf(int count) {
        return entered(count, count);
    }

    /** So many patterns entered in all, of which the last ones are left. */
    static Ahoarch entered(int count, int left) {
        Ahoarch x = new Ahoarch();
        int next = 0;
        for (int number = 0; number < count; number++) {
            // Room for the next: one out for one in, as soon as no more are to be left.
            if (number - next >= Math.max(1, left)) {
                x.takeOut(next);
                next++;
            }
            enter(x, pair(number));
        }
        while (count - next > left) {
            x.takeOut(next);
            next++;
        }
        return x;
    }

    static Ahoarch drafted(String letters) {
        return withDraft(new Ahoarch(), letters);
    }

    static Ahoarch withDraft(Ahoarch x, String letters) {
        draft(x, letters);
        return x;
    }

    static Ahoarch withReplacement(Ahoarch x, int pattern, String letters) {
        replaceBy(x, pattern, letters);
        return x;
    }

    static Ahoarch fed(Ahoarch x, String letters) {
        feed(x, letters);
        return x;
    }

    // ---- what is asked of all calls of one kind

    /** Of busy(): taken out, not yet entered, never to be entered, and beyond all rows. */
    static void refusesNumbers(BiFunction<Ahoarch, Integer, ?> call) {
        for (int number : new int[] {1, 4, -1, 5, 19, 20, 39, 40, 41, LEAST, LEAST + 3, MOST}) {
            refused(NO_ELEMENT, Boundaries::busy, x -> call.apply(x, number));
        }
        refused(NO_ELEMENT, Ahoarch::new, x -> call.apply(x, 0));
        refused(NO_ELEMENT, () -> drafted("ab"), x -> call.apply(x, 0));
    }

    static void refusesRules(BiFunction<Ahoarch, Integer, ?> call) {
        for (int rule : new int[] {-1, 3, LEAST, LEAST + 1, MOST, 256}) {
            refused(NO_ARGUMENT, Boundaries::busy, x -> call.apply(x, rule));
            refused(NO_ARGUMENT, Ahoarch::new, x -> call.apply(x, rule));
        }
    }

    interface ChosenCall {
        int ask(Ahoarch x, int rule, int index);
    }

    /** By each rule busy() has three chosen occurrences. */
    static void refusesChosen(ChosenCall call) {
        for (int rule = 0; rule < 3; rule++) {
            int r = rule;
            for (int index : new int[] {-1, 3, 199, 200, 201, LEAST, MOST}) {
                refused(NO_INDEX, Boundaries::busy, x -> call.ask(x, r, index));
            }
            refused(NO_INDEX, Ahoarch::new, x -> call.ask(x, r, 0));
            refused(NO_INDEX, () -> with("a"), x -> call.ask(x, r, 0));
            refused(NO_INDEX, () -> fed(with("a"), "b"), x -> call.ask(x, r, 0));
        }
    }

    static void dueChosen(Ahoarch x, String byLongest, String byNumber, String byEnd) {
        due(byLongest, () -> chosen(x, 0));
        due(byNumber, () -> chosen(x, 1));
        due(byEnd, () -> chosen(x, 2));
    }

    /** The chosen occurrences, each as its pattern's number and its place. */
    static String chosen(Ahoarch x, int rule) {
        List<String> parts = new ArrayList<>();
        int count = x.chosen(rule);
        for (int index = 0; index < count; index++) {
            parts.add(x.chosenPattern(rule, index) + "@" + x.chosenPlace(rule, index));
        }
        return String.join(" ", parts);
    }

    // ---- that a refused call changed nothing

    /** The call answers so, and the object then shows what one shows that was made alike but not asked. */
    static void refused(String want, Supplier<Ahoarch> made, Function<Ahoarch, ?> call) {
        Ahoarch asked = made.get();
        due(want, () -> call.apply(asked));
        String untouched = seen(made.get()).toString();
        due(untouched, () -> seen(asked).toString());
    }

    /** All that questions show, and then, by calls that change the object, its draft and its next number. */
    static List<String> seen(Ahoarch x) {
        List<String> answers = questions(x);
        int first = firstPattern(x);
        if (first >= 0) {
            answers.add("replacement before " + answer(() -> x.setReplacement(first)));
            answers.add("clear " + answer(x::clear));
            answers.add("feedPattern " + answer(() -> x.feedPattern(first)));
            answers.add("draft " + replaced(x, 0));
            answers.add("takeOut " + answer(() -> x.takeOut(first)));
        } else {
            answers.add("draft entered as " + answer(x::enter));
            answers.add("its length " + answer(() -> x.length(firstPattern(x))));
        }
        answers.add("draft then " + answer(() -> x.draft('z')));
        answers.add("draft then " + answer(() -> x.draft('z')));
        answers.add("next number " + answer(x::enter));
        return answers;
    }

    static int firstPattern(Ahoarch x) {
        for (int number = 0; number < 40; number++) {
            int n = number;
            if (!answer(() -> x.length(n)).startsWith("throws.")) {
                return number;
            }
        }
        return -1;
    }

    /** The answers of all questions, of long rows the first and last ones; at most some 200 calls. */
    static List<String> questions(Ahoarch x) {
        List<String> answers = new ArrayList<>();
        answers.add("patterns " + x.patterns() + ", beginnings " + x.beginnings());
        answers.add("streamLength " + x.streamLength() + ", depth " + x.depth() + ", ending " + x.ending());
        answers.add("occurrences " + x.occurrences() + ", told " + x.told() + ", covered " + x.covered());
        answers.add("mostApart " + x.mostApart() + ", certain " + x.certain());
        for (int number = 0; number < 40; number++) {
            questionsOf(x, number, answers);
        }
        for (int index = 0; index < x.ending(); index++) {
            answers.add("endingPattern " + x.endingPattern(index));
        }
        for (int rule = 0; rule < 3; rule++) {
            questionsBy(x, rule, answers);
        }
        return answers;
    }

    static void questionsOf(Ahoarch x, int number, List<String> answers) {
        String length = answer(() -> x.length(number));
        if (length.startsWith("throws.")) {
            return;
        }
        answers.add("pattern " + number + ": length " + length + ", link " + x.link(number)
            + ", overlap " + x.overlap(number, number) + ", occurrencesOf " + x.occurrencesOf(number)
            + ", first " + answer(() -> x.occurrence(number, 0)));
    }

    static void questionsBy(Ahoarch x, int rule, List<String> answers) {
        int count = x.chosen(rule);
        answers.add("chosen " + count);
        for (int index = 0; index < count; index++) {
            if (index < 3 || index >= count - 3) {
                answers.add(x.chosenPattern(rule, index) + "@" + x.chosenPlace(rule, index));
            }
        }
        int size = x.replacedLength(rule);
        answers.add("replacedLength " + size);
        for (int index = 0; index < size; index++) {
            if (index < 3 || index >= size - 10) {
                answers.add("replaced " + x.replaced(rule, index));
            }
        }
    }

    static void says(String place, String words) {
        about(place + ", \"" + words + "\"");
    }
}
