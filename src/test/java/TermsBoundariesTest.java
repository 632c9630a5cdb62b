import java.util.List;

/** A test for each sentence that names a boundary case: the terms and of what holds for all calls. */
public final class TermsBoundariesTest extends Boundaries {
    public static void main(String[] args) {
        theTerms();
        theChoosing();
        theExceptions();
        finish("TermsBoundariesTest");
    }

    private static void theTerms() {
        usedForAtMost512Calls();
        lettersAreAToZ();
        patternHas1To8Letters();
        atMost20PatternsAtATime();
        noTwoWithTheSameLetters();
        replacementOf0To8Letters();
        replacementIsEmptyAtFirst();
        numberedFrom0();
        numberIsNotUsedAgain();
        atMost40Entered();
        streamHasAtMost200Letters();
        letterNumberI();
        occurrenceHasAsManyLettersAsThePattern();
        wheneverTheyWereEntered();
        ofAllPatternsThatThereAre();
    }

    private static void theChoosing() {
        notLessThanTheEndBefore();
        fromThePlace0On();
        ruleZeroTheLongest();
        ruleOneTheLowestNumber();
        ruleTwoEndsFirst();
        ruleTwoTheLongestThatEndsThere();
        goesOnUntilThereIsNone();
    }

    private static void theExceptions() {
        questionsChangeNothing();
        documentedFirstIsThrown();
    }

    // ---- What it is, Terms

    private static void usedForAtMost512Calls() {
        says("What it is", "An object is used for at most 512 calls after it has been made");
        Ahoarch x = with("a");
        feed(x, "a".repeat(200));
        x.clear();
        feed(x, "a".repeat(200));
        x.clear();
        feed(x, "a".repeat(107));
        due(107, x::told);
        Ahoarch y = with("a");
        feed(y, "a".repeat(199));
        for (int call = 202; call < 512; call++) {
            y.replacedLength(call % 3);
        }
        due(1, () -> y.feed('a'));
    }

    private static void lettersAreAToZ() {
        says("Terms", "Letters are a to z.");
        Ahoarch x = new Ahoarch();
        for (char letter = 'a'; letter <= 'z'; letter++) {
            feed(x, "" + letter);
        }
        due("abcdefghijklmnopqrstuvwxyz", () -> replaced(x, 0));
        for (char letter = 'a'; letter <= 'z'; letter++) {
            Ahoarch y = with("" + letter);
            feed(y, "abcdefghijklmnopqrstuvwxyz");
            due(1, () -> y.occurrencesOf(0));
            due(letter - 'a', () -> y.occurrence(0, 0));
            replaceBy(y, 0, "" + letter + letter);
            due("" + letter + letter, () -> "" + y.replaced(0, y.occurrence(0, 0)) + y.replaced(0, y.occurrence(0, 0) + 1));
        }
    }

    private static void patternHas1To8Letters() {
        says("Terms", "A pattern has 1 to 8 letters");
        refused(NO_STATE, Ahoarch::new, Ahoarch::enter);
        for (int size = 1; size <= 8; size++) {
            Ahoarch x = new Ahoarch();
            draft(x, EIGHT.substring(0, size));
            due(0, x::enter);
            due(size, () -> x.length(0));
            due(1, () -> x.feedPattern(0));
            due(size, x::streamLength);
        }
        refused(NO_STATE, () -> drafted(EIGHT), x -> x.draft('i'));
    }

    private static void atMost20PatternsAtATime() {
        says("Terms", "there are at most 20 patterns at a time");
        Ahoarch x = patternsOf(19);
        draft(x, pair(19));
        due(19, x::enter);
        due(20, x::patterns);
        refused(NO_STATE, () -> withDraft(patternsOf(20), "zz"), Ahoarch::enter);
        Ahoarch again = withDraft(patternsOf(20), "zz");
        again.takeOut(7);
        due(20, again::enter);
        due(20, again::patterns);
    }

    private static void noTwoWithTheSameLetters() {
        says("Terms", "no two with the same letters");
        refused(NO_STATE, () -> withDraft(with(EIGHT, "ab"), EIGHT), Ahoarch::enter);
        refused(NO_STATE, () -> withDraft(with(EIGHT, "ab"), "ab"), Ahoarch::enter);
        refused(NO_STATE, () -> withDraft(with("a"), "a"), Ahoarch::enter);
        Ahoarch x = with("ab");
        String[] others = {"a", "b", "ba", "aba", "aab", "abb", "abab", "ac", "bb", "aa"};
        for (int index = 0; index < others.length; index++) {
            draft(x, others[index]);
            due(index + 1, x::enter);
        }
        Ahoarch near = with("abcdefgh");
        draft(near, "bbcdefgh");
        due(1, near::enter);
        draft(near, "abcdefgi");
        due(2, near::enter);
    }

    private static void replacementOf0To8Letters() {
        says("Terms", "A pattern has a replacement of 0 to 8 letters");
        for (int size = 0; size <= 8; size++) {
            String letters = "zyxwvuts".substring(0, size);
            Ahoarch x = with("q");
            draft(x, letters);
            due(0, () -> x.setReplacement(0));
            feed(x, "q");
            due(letters, () -> replaced(x, 0));
        }
        Ahoarch nine = withDraft(with("q"), "zyxwvuts");
        due(NO_STATE, () -> nine.draft('r'));
        nine.setReplacement(0);
        feed(nine, "q");
        due("zyxwvuts", () -> replaced(nine, 0));
    }

    private static void replacementIsEmptyAtFirst() {
        says("Terms", "A pattern has a replacement of 0 to 8 letters, which is empty at first.");
        Ahoarch x = with("a", "b");
        feed(x, "ab");
        due(0, () -> x.replacedLength(0));
        due(0, () -> x.setReplacement(0));
        due(0, () -> x.setReplacement(1));
        replaceBy(x, 1, "xyz");
        x.takeOut(1);
        enter(x, "b");
        due(0, () -> x.replacedLength(0));
        due(0, () -> x.setReplacement(2));
    }

    private static void numberedFrom0() {
        says("Terms", "Patterns are numbered from 0 in the order in which they are entered");
        Ahoarch x = new Ahoarch();
        String[] letters = {"zzz", "a", "mm", "zz"};
        for (int number = 0; number < letters.length; number++) {
            draft(x, letters[number]);
            due(number, x::enter);
        }
        for (int number = 0; number < letters.length; number++) {
            int n = number;
            due(letters[number].length(), () -> x.length(n));
        }
    }

    private static void numberIsNotUsedAgain() {
        says("Terms", "a number is not used again when a pattern is taken out");
        Ahoarch x = with("a", "b", "c");
        x.takeOut(2);
        draft(x, "c");
        due(3, x::enter);
        due(NO_ELEMENT, () -> x.length(2));
        x.takeOut(0);
        x.takeOut(1);
        x.takeOut(3);
        draft(x, "a");
        due(4, x::enter);
        for (int number = 0; number < 4; number++) {
            int n = number;
            due(NO_ELEMENT, () -> x.length(n));
        }
        due(1, () -> x.length(4));
        // A refused call takes no number.
        draft(x, "a");
        due(NO_STATE, x::enter);
        due(3, () -> x.draft('b') + 1);
        due(5, x::enter);
    }

    private static void atMost40Entered() {
        says("Terms", "At most 40 patterns are entered in all.");
        Ahoarch x = entered(39, 0);
        draft(x, "z");
        due(39, x::enter);
        due(1, () -> x.length(39));
        due(1, () -> x.feedPattern(39));
        due(0, () -> x.takeOut(39));
        draft(x, "z");
        due(NO_STATE, x::enter);
        due(0, x::patterns);
    }

    private static void streamHasAtMost200Letters() {
        says("Terms", "The stream has at most 200 letters");
        Ahoarch x = with("ab");
        feed(x, "ab".repeat(100));
        due(200, x::streamLength);
        due(100, x::occurrences);
        due(NO_STATE, () -> x.feed('a'));
        due(NO_STATE, () -> x.feedPattern(0));
        due(200, x::streamLength);
        due(100, x::occurrences);
    }

    private static void letterNumberI() {
        says("Terms", "the letter number i is the one before which i letters came");
        Ahoarch x = with("z");
        feed(x, "z" + "a".repeat(198) + "z");
        due(0, () -> x.occurrence(0, 0));
        due(199, () -> x.occurrence(0, 1));
        due(NO_INDEX, () -> x.occurrence(0, 2));
    }

    private static void occurrenceHasAsManyLettersAsThePattern() {
        says("Terms", "An occurrence of a pattern at the place i means that the letters from number i on, "
            + "as many as the pattern has, are its letters; it ends at i plus its length.");
        Ahoarch x = with("abc", EIGHT);
        feed(x, "bc");
        dueNoOccurrence(x);
        feed(x, "ab");
        dueNoOccurrence(x);
        due(1, () -> x.feed('c'));
        due(2, () -> x.occurrence(0, 0));
        feed(x, "bcdefgh");
        due(1, x::occurrences);
        x.clear();
        feed(x, "abcdefg");
        due(0, () -> x.occurrencesOf(1));
        due(1, () -> x.feed('h'));
        due(0, () -> x.occurrence(1, 0));
        // Behind the stream's end there still stands what it had before.
        x.clear();
        feed(x, "ab");
        dueNoOccurrence(x);
    }

    private static void dueNoOccurrence(Ahoarch x) {
        due(0, x::occurrences);
        due(0, x::ending);
        due(0, x::covered);
        due(0, x::mostApart);
        due("0 0 0", () -> x.chosen(0) + " " + x.chosen(1) + " " + x.chosen(2));
        due(NO_INDEX, () -> x.occurrence(0, 0));
    }

    private static void wheneverTheyWereEntered() {
        says("Terms", "Occurrences are those in the whole stream of all patterns that there are, "
            + "whenever they were entered");
        Ahoarch x = new Ahoarch();
        feed(x, "abcab");
        dueNoPattern(x);
        enter(x, "ab");
        due(2, x::occurrences);
        due(2, () -> x.occurrencesOf(0));
        due(0, () -> x.occurrence(0, 0));
        due(1, x::ending);
        due(0, () -> x.endingPattern(0));
        due(2, x::depth);
        due(4, x::covered);
        due(2, x::mostApart);
        due(1, () -> x.replacedLength(2));
        due(0, x::told);
    }

    private static void dueNoPattern(Ahoarch x) {
        due(0, x::occurrences);
        due(0, x::depth);
        due(0, x::covered);
        due(0, x::mostApart);
        due(5, () -> x.replacedLength(2));
        due(5, x::certain);
    }

    private static void ofAllPatternsThatThereAre() {
        says("Terms", "of all patterns that there are");
        Ahoarch x = with("ab", "c", "b");
        feed(x, "abcab");
        due(5, x::occurrences);
        x.takeOut(0);
        due(3, x::occurrences);
        due(1, x::ending);
        due(2, () -> x.endingPattern(0));
        due(3, x::covered);
        x.takeOut(1);
        x.takeOut(2);
        dueNoPattern(x);
    }

    // ---- Terms: choosing occurrences

    private static void notLessThanTheEndBefore() {
        says("Terms", "whose place is not less than the end of the one chosen before");
        Ahoarch x = with("ab", "ba", "cab");
        // At the end of the one before: it is chosen; one letter sooner: it is not.
        feed(x, "abba");
        dueChosen(x, "0@0 1@2", "0@0 1@2", "0@0 1@2");
        x.clear();
        feed(x, "aba");
        dueChosen(x, "0@0", "0@0", "0@0");
        feed(x, "ba");
        dueChosen(x, "0@0 0@2", "0@0 0@2", "0@0 0@2");
        x.clear();
        feed(x, "cabba");
        dueChosen(x, "2@0 1@3", "2@0 1@3", "2@0 1@3");
    }

    private static void fromThePlace0On() {
        says("Terms", "One goes through the stream from the place 0 on.");
        Ahoarch x = with("a", EIGHT);
        feed(x, "a");
        dueChosen(x, "0@0", "0@0", "0@0");
        feed(x, "bcdefgh");
        dueChosen(x, "1@0", "0@0", "0@0");
        x.takeOut(0);
        dueChosen(x, "1@0", "1@0", "1@0");
    }

    private static void ruleZeroTheLongest() {
        says("Terms", "With the rule 0, leftmost longest, the next chosen occurrence is the one with the lowest "
            + "place that is not less than the end of the one chosen before (0 at first), and of several at this "
            + "place the longest one.");
        Ahoarch x = with("a", "abc", "ab", "bcdefgh");
        feed(x, "abcdefgh");
        due("1@0", () -> chosen(x, 0));
        x.takeOut(1);
        due("2@0", () -> chosen(x, 0));
        x.takeOut(2);
        due("0@0 3@1", () -> chosen(x, 0));
        enter(x, EIGHT);
        due("4@0", () -> chosen(x, 0));
    }

    private static void ruleOneTheLowestNumber() {
        says("Terms", "With the rule 1, leftmost first, it is of several at this place that of the pattern with "
            + "the lowest number.");
        Ahoarch x = with("bc", "abc", "a", "abcd");
        feed(x, "abcd");
        due("1@0", () -> chosen(x, 1));
        x.takeOut(1);
        due("2@0 0@1", () -> chosen(x, 1));
        enter(x, "abc");
        due("2@0 0@1", () -> chosen(x, 1));
        x.takeOut(2);
        due("3@0", () -> chosen(x, 1));
        x.takeOut(3);
        due("4@0", () -> chosen(x, 1));
    }

    private static void ruleTwoEndsFirst() {
        says("Terms", "With the rule 2, earliest end, the next chosen occurrence is, among those whose place is "
            + "not less than the end of the one chosen before, the one that ends first");
        Ahoarch x = with("abcd", "bc", "cde", "d", "ef");
        feed(x, "abcdef");
        due("1@1 3@3 4@4", () -> chosen(x, 2));
        x.takeOut(3);
        due("1@1 4@4", () -> chosen(x, 2));
        x.takeOut(1);
        due("0@0 4@4", () -> chosen(x, 2));
    }

    private static void ruleTwoTheLongestThatEndsThere() {
        says("Terms", "and of several that end there the longest one");
        Ahoarch x = with("c", "abc", "bc");
        feed(x, "abc");
        due("1@0", () -> chosen(x, 2));
        // The longest one begins before the end of the one chosen before; the next is at that end.
        enter(x, "xa");
        x.clear();
        feed(x, "xabc");
        due("3@0 2@2", () -> chosen(x, 2));
        enter(x, "xab");
        due("3@0 2@2", () -> chosen(x, 2));
        x.takeOut(3);
        due("4@0 0@3", () -> chosen(x, 2));
        Ahoarch order = with("abc", "c", "bc");
        feed(order, "abc");
        due("0@0", () -> chosen(order, 2));
    }

    private static void goesOnUntilThereIsNone() {
        says("Terms", "It goes on until there is none.");
        Ahoarch x = with("b");
        feed(x, "a".repeat(199) + "b");
        dueChosen(x, "0@199", "0@199", "0@199");
        x.clear();
        feed(x, "b" + "a".repeat(100) + "b" + "a");
        dueChosen(x, "0@0 0@101", "0@0 0@101", "0@0 0@101");
        x.takeOut(0);
        dueChosen(x, "", "", "");
    }

    // ---- Terms: exceptions

    private static void questionsChangeNothing() {
        says("Not promised", "Nothing is promised beyond the answers and state changes described above");
        Ahoarch asked = busy();
        List<String> first = questions(asked);
        due(first.toString(), () -> questions(asked).toString());
        due(seen(busy()).toString(), () -> {
            Ahoarch other = busy();
            questions(other);
            return seen(other).toString();
        });
    }

    private static void documentedFirstIsThrown() {
        says("Terms", "If several exceptions apply, the one that is documented first is thrown.");
        refused(NO_ARGUMENT, () -> drafted(EIGHT), x -> x.draft('A'));
        refused(NO_ARGUMENT, Boundaries::fullStream, x -> x.feed('`'));
        refused(NO_ELEMENT, Boundaries::fullStream, x -> x.feedPattern(3));
        refused(NO_ELEMENT, Boundaries::fullStream, x -> x.feedPattern(-1));
        refused(NO_ELEMENT, Boundaries::busy, x -> x.occurrence(1, -1));
        refused(NO_ELEMENT, Boundaries::busy, x -> x.occurrence(4, MOST));
        refused(NO_ARGUMENT, Boundaries::busy, x -> x.chosenPattern(3, -1));
        refused(NO_ARGUMENT, Boundaries::busy, x -> x.chosenPattern(-1, MOST));
        refused(NO_ARGUMENT, Boundaries::busy, x -> x.chosenPlace(3, -1));
        refused(NO_ARGUMENT, Boundaries::busy, x -> x.chosenPlace(-1, MOST));
        refused(NO_ARGUMENT, Boundaries::busy, x -> x.replaced(3, -1));
        refused(NO_ARGUMENT, Boundaries::busy, x -> x.replaced(-1, MOST));
    }
}
