import java.util.ArrayList;
import java.util.List;
import java.util.function.BiFunction;
import java.util.function.Function;
import java.util.function.Supplier;

/**
 * For each sentence of the document that names a boundary case a test of its own: the last call
 * that is taken, the first that is refused, and that a refused call changed nothing. No object is
 * used for more than the 512 calls that the document promises.
 */
public final class BoundariesTest extends Testing {
    private static final int LEAST = Integer.MIN_VALUE;
    private static final int MOST = Integer.MAX_VALUE;
    private static final String EIGHT = "abcdefgh";

    public static void main(String[] args) {
        theTerms();
        theChoosing();
        theExceptions();
        thePatterns();
        theKnownOfPatterns();
        theStream();
        theState();
        theOccurrences();
        theChosen();
        theReplaced();
        finish("BoundariesTest");
    }

    private static void theTerms() {
        usedForAtMost512Calls();
        lettersAreAToZ();
        patternHas1To8Letters();
        atMost20PatternsAtATime();
        noTwoWithTheSameLetters();
        replacementOf0To8Letters();
        replacementIsEmptyAtFirst();
        numberedFrom0();
        numberIsNotUsedAgain();
        atMost40Entered();
        streamHasAtMost200Letters();
        letterNumberI();
        occurrenceHasAsManyLettersAsThePattern();
        wheneverTheyWereEntered();
        ofAllPatternsThatThereAre();
    }

    private static void theChoosing() {
        notLessThanTheEndBefore();
        fromThePlace0On();
        ruleZeroTheLongest();
        ruleOneTheLowestNumber();
        ruleTwoEndsFirst();
        ruleTwoTheLongestThatEndsThere();
        goesOnUntilThereIsNone();
    }

    private static void theExceptions() {
        questionsChangeNothing();
        documentedFirstIsThrown();
    }

    private static void thePatterns() {
        newObject();
        draftNoSuchLetter();
        draftHas8Letters();
        draftIsEmptyAtFirst();
        enterEmptyDraft();
        enterSameLetters();
        enterThereAre20();
        enter40WereEntered();
        enterEmptiesTheDraft();
        setReplacementMayBeEmpty();
        setReplacementEmptiesTheDraft();
        setReplacementLengthBefore();
        setReplacementNoSuchPattern();
        takeOutHowManyAreLeft();
        takeOutNoSuchPattern();
        patternsFrom0To20();
    }

    private static void theKnownOfPatterns() {
        lengthFrom1To8();
        lengthNoSuchPattern();
        beginningsDifferent();
        beginningsNotEmpty();
        linkShorter();
        linkNotEmpty();
        linkNoSuchPattern();
        overlapShorterThanBoth();
        overlapMayBeTheSame();
        overlapNoSuchPattern();
    }

    private static void theStream() {
        feedNoSuchLetter();
        feedStreamHas200();
        feedHowManyEnd();
        feedPatternNoSuchPattern();
        feedPatternMoreThan200();
        feedPatternHowManyEnd();
        clearHowManyItHad();
        clearEmptiesTheStream();
        clearLeavesTheRest();
        streamLengthFrom0To200();
    }

    private static void theState() {
        depthOfNothing();
        depthWholePatternAndEmptyString();
        depthAnEndOfTheStream();
        endingZeroIfEmpty();
        endingUpToEight();
        endingPatternLongestFirst();
        endingPatternNoSuchOccurrence();
    }

    private static void theOccurrences() {
        occurrencesNoneAndMost();
        occurrencesOfNoneAndMost();
        occurrencesOfNoSuchPattern();
        occurrenceFirstAndLast();
        occurrenceNoSuchPattern();
        occurrenceNoSuchOccurrence();
        toldSinceEmptiedOrCreated();
        toldIsTheSumOfWhatTheyReturned();
        coveredNoneAndAll();
        coveredOnceEach();
        mostApartNoLetterInCommon();
        mostApartNoneAndMost();
    }

    private static void theChosen() {
        chosenRuleOutOfRange();
        chosenNoneAndMost();
        chosenPatternRuleOutOfRange();
        chosenPatternNoSuchOccurrence();
        chosenPlaceRuleOutOfRange();
        chosenPlaceNoSuchOccurrence();
    }

    private static void theReplaced() {
        replacedLengthRuleOutOfRange();
        replacedLengthNoneAndMost();
        replacedRuleOutOfRange();
        replacedNoSuchLetter();
        replacedEachOccurrence();
        certainRestIsNotEmpty();
        certainPatternThatIsLonger();
        certainBehindTheLongest();
        certainToTheNextPlace();
        certainStopsAtTheEnd();
        certainByTheRule0();
        certainOfAnEmptyStream();
    }

    // ---- What it is, Terms

    private static void usedForAtMost512Calls() {
        says("What it is", "An object is used for at most 512 calls after it has been made");
        Ahoarch x = with("a");
        feed(x, "a".repeat(200));
        x.clear();
        feed(x, "a".repeat(200));
        x.clear();
        feed(x, "a".repeat(107));
        due(107, x::told);
        Ahoarch y = with("a");
        feed(y, "a".repeat(199));
        for (int call = 202; call < 512; call++) {
            y.replacedLength(call % 3);
        }
        due(1, () -> y.feed('a'));
    }

    private static void lettersAreAToZ() {
        says("Terms", "Letters are a to z.");
        Ahoarch x = new Ahoarch();
        for (char letter = 'a'; letter <= 'z'; letter++) {
            feed(x, "" + letter);
        }
        due("abcdefghijklmnopqrstuvwxyz", () -> replaced(x, 0));
        for (char letter = 'a'; letter <= 'z'; letter++) {
            Ahoarch y = with("" + letter);
            feed(y, "abcdefghijklmnopqrstuvwxyz");
            due(1, () -> y.occurrencesOf(0));
            due(letter - 'a', () -> y.occurrence(0, 0));
            replaceBy(y, 0, "" + letter + letter);
            due("" + letter + letter, () -> "" + y.replaced(0, y.occurrence(0, 0)) + y.replaced(0, y.occurrence(0, 0) + 1));
        }
    }

    private static void patternHas1To8Letters() {
        says("Terms", "A pattern has 1 to 8 letters");
        refused(NO_STATE, Ahoarch::new, Ahoarch::enter);
        for (int size = 1; size <= 8; size++) {
            Ahoarch x = new Ahoarch();
            draft(x, EIGHT.substring(0, size));
            due(0, x::enter);
            due(size, () -> x.length(0));
            due(1, () -> x.feedPattern(0));
            due(size, x::streamLength);
        }
        refused(NO_STATE, () -> drafted(EIGHT), x -> x.draft('i'));
    }

    private static void atMost20PatternsAtATime() {
        says("Terms", "there are at most 20 patterns at a time");
        Ahoarch x = patternsOf(19);
        draft(x, pair(19));
        due(19, x::enter);
        due(20, x::patterns);
        refused(NO_STATE, () -> withDraft(patternsOf(20), "zz"), Ahoarch::enter);
        Ahoarch again = withDraft(patternsOf(20), "zz");
        again.takeOut(7);
        due(20, again::enter);
        due(20, again::patterns);
    }

    private static void noTwoWithTheSameLetters() {
        says("Terms", "no two with the same letters");
        refused(NO_STATE, () -> withDraft(with(EIGHT, "ab"), EIGHT), Ahoarch::enter);
        refused(NO_STATE, () -> withDraft(with(EIGHT, "ab"), "ab"), Ahoarch::enter);
        refused(NO_STATE, () -> withDraft(with("a"), "a"), Ahoarch::enter);
        Ahoarch x = with("ab");
        String[] others = {"a", "b", "ba", "aba", "aab", "abb", "abab", "ac", "bb", "aa"};
        for (int index = 0; index < others.length; index++) {
            draft(x, others[index]);
            due(index + 1, x::enter);
        }
        Ahoarch near = with("abcdefgh");
        draft(near, "bbcdefgh");
        due(1, near::enter);
        draft(near, "abcdefgi");
        due(2, near::enter);
    }

    private static void replacementOf0To8Letters() {
        says("Terms", "A pattern has a replacement of 0 to 8 letters");
        for (int size = 0; size <= 8; size++) {
            String letters = "zyxwvuts".substring(0, size);
            Ahoarch x = with("q");
            draft(x, letters);
            due(0, () -> x.setReplacement(0));
            feed(x, "q");
            due(letters, () -> replaced(x, 0));
        }
        Ahoarch nine = withDraft(with("q"), "zyxwvuts");
        due(NO_STATE, () -> nine.draft('r'));
        nine.setReplacement(0);
        feed(nine, "q");
        due("zyxwvuts", () -> replaced(nine, 0));
    }

    private static void replacementIsEmptyAtFirst() {
        says("Terms", "A pattern has a replacement of 0 to 8 letters, which is empty at first.");
        Ahoarch x = with("a", "b");
        feed(x, "ab");
        due(0, () -> x.replacedLength(0));
        due(0, () -> x.setReplacement(0));
        due(0, () -> x.setReplacement(1));
        replaceBy(x, 1, "xyz");
        x.takeOut(1);
        enter(x, "b");
        due(0, () -> x.replacedLength(0));
        due(0, () -> x.setReplacement(2));
    }

    private static void numberedFrom0() {
        says("Terms", "Patterns are numbered from 0 in the order in which they are entered");
        Ahoarch x = new Ahoarch();
        String[] letters = {"zzz", "a", "mm", "zz"};
        for (int number = 0; number < letters.length; number++) {
            draft(x, letters[number]);
            due(number, x::enter);
        }
        for (int number = 0; number < letters.length; number++) {
            int n = number;
            due(letters[number].length(), () -> x.length(n));
        }
    }

    private static void numberIsNotUsedAgain() {
        says("Terms", "a number is not used again when a pattern is taken out");
        Ahoarch x = with("a", "b", "c");
        x.takeOut(2);
        draft(x, "c");
        due(3, x::enter);
        due(NO_ELEMENT, () -> x.length(2));
        x.takeOut(0);
        x.takeOut(1);
        x.takeOut(3);
        draft(x, "a");
        due(4, x::enter);
        for (int number = 0; number < 4; number++) {
            int n = number;
            due(NO_ELEMENT, () -> x.length(n));
        }
        due(1, () -> x.length(4));
        // A refused call takes no number.
        draft(x, "a");
        due(NO_STATE, x::enter);
        due(3, () -> x.draft('b') + 1);
        due(5, x::enter);
    }

    private static void atMost40Entered() {
        says("Terms", "At most 40 patterns are entered in all.");
        Ahoarch x = entered(39, 0);
        draft(x, "z");
        due(39, x::enter);
        due(1, () -> x.length(39));
        due(1, () -> x.feedPattern(39));
        due(0, () -> x.takeOut(39));
        draft(x, "z");
        due(NO_STATE, x::enter);
        due(0, x::patterns);
    }

    private static void streamHasAtMost200Letters() {
        says("Terms", "The stream has at most 200 letters");
        Ahoarch x = with("ab");
        feed(x, "ab".repeat(100));
        due(200, x::streamLength);
        due(100, x::occurrences);
        due(NO_STATE, () -> x.feed('a'));
        due(NO_STATE, () -> x.feedPattern(0));
        due(200, x::streamLength);
        due(100, x::occurrences);
    }

    private static void letterNumberI() {
        says("Terms", "the letter number i is the one before which i letters came");
        Ahoarch x = with("z");
        feed(x, "z" + "a".repeat(198) + "z");
        due(0, () -> x.occurrence(0, 0));
        due(199, () -> x.occurrence(0, 1));
        due(NO_INDEX, () -> x.occurrence(0, 2));
    }

    private static void occurrenceHasAsManyLettersAsThePattern() {
        says("Terms", "An occurrence of a pattern at the place i means that the letters from number i on, "
            + "as many as the pattern has, are its letters; it ends at i plus its length.");
        Ahoarch x = with("abc", EIGHT);
        feed(x, "bc");
        dueNoOccurrence(x);
        feed(x, "ab");
        dueNoOccurrence(x);
        due(1, () -> x.feed('c'));
        due(2, () -> x.occurrence(0, 0));
        feed(x, "bcdefgh");
        due(1, x::occurrences);
        x.clear();
        feed(x, "abcdefg");
        due(0, () -> x.occurrencesOf(1));
        due(1, () -> x.feed('h'));
        due(0, () -> x.occurrence(1, 0));
        // Behind the stream's end there still stands what it had before.
        x.clear();
        feed(x, "ab");
        dueNoOccurrence(x);
    }

    private static void dueNoOccurrence(Ahoarch x) {
        due(0, x::occurrences);
        due(0, x::ending);
        due(0, x::covered);
        due(0, x::mostApart);
        due("0 0 0", () -> x.chosen(0) + " " + x.chosen(1) + " " + x.chosen(2));
        due(NO_INDEX, () -> x.occurrence(0, 0));
    }

    private static void wheneverTheyWereEntered() {
        says("Terms", "Occurrences are those in the whole stream of all patterns that there are, "
            + "whenever they were entered");
        Ahoarch x = new Ahoarch();
        feed(x, "abcab");
        dueNoPattern(x);
        enter(x, "ab");
        due(2, x::occurrences);
        due(2, () -> x.occurrencesOf(0));
        due(0, () -> x.occurrence(0, 0));
        due(1, x::ending);
        due(0, () -> x.endingPattern(0));
        due(2, x::depth);
        due(4, x::covered);
        due(2, x::mostApart);
        due(1, () -> x.replacedLength(2));
        due(0, x::told);
    }

    private static void dueNoPattern(Ahoarch x) {
        due(0, x::occurrences);
        due(0, x::depth);
        due(0, x::covered);
        due(0, x::mostApart);
        due(5, () -> x.replacedLength(2));
        due(5, x::certain);
    }

    private static void ofAllPatternsThatThereAre() {
        says("Terms", "of all patterns that there are");
        Ahoarch x = with("ab", "c", "b");
        feed(x, "abcab");
        due(5, x::occurrences);
        x.takeOut(0);
        due(3, x::occurrences);
        due(1, x::ending);
        due(2, () -> x.endingPattern(0));
        due(3, x::covered);
        x.takeOut(1);
        x.takeOut(2);
        dueNoPattern(x);
    }

    // ---- Terms: choosing occurrences

    private static void notLessThanTheEndBefore() {
        says("Terms", "whose place is not less than the end of the one chosen before");
        Ahoarch x = with("ab", "ba", "cab");
        // At the end of the one before: it is chosen; one letter sooner: it is not.
        feed(x, "abba");
        dueChosen(x, "0@0 1@2", "0@0 1@2", "0@0 1@2");
        x.clear();
        feed(x, "aba");
        dueChosen(x, "0@0", "0@0", "0@0");
        feed(x, "ba");
        dueChosen(x, "0@0 0@2", "0@0 0@2", "0@0 0@2");
        x.clear();
        feed(x, "cabba");
        dueChosen(x, "2@0 1@3", "2@0 1@3", "2@0 1@3");
    }

    private static void fromThePlace0On() {
        says("Terms", "One goes through the stream from the place 0 on.");
        Ahoarch x = with("a", EIGHT);
        feed(x, "a");
        dueChosen(x, "0@0", "0@0", "0@0");
        feed(x, "bcdefgh");
        dueChosen(x, "1@0", "0@0", "0@0");
        x.takeOut(0);
        dueChosen(x, "1@0", "1@0", "1@0");
    }

    private static void ruleZeroTheLongest() {
        says("Terms", "With the rule 0, leftmost longest, the next chosen occurrence is the one with the lowest "
            + "place that is not less than the end of the one chosen before (0 at first), and of several at this "
            + "place the longest one.");
        Ahoarch x = with("a", "abc", "ab", "bcdefgh");
        feed(x, "abcdefgh");
        due("1@0", () -> chosen(x, 0));
        x.takeOut(1);
        due("2@0", () -> chosen(x, 0));
        x.takeOut(2);
        due("0@0 3@1", () -> chosen(x, 0));
        enter(x, EIGHT);
        due("4@0", () -> chosen(x, 0));
    }

    private static void ruleOneTheLowestNumber() {
        says("Terms", "With the rule 1, leftmost first, it is of several at this place that of the pattern with "
            + "the lowest number.");
        Ahoarch x = with("bc", "abc", "a", "abcd");
        feed(x, "abcd");
        due("1@0", () -> chosen(x, 1));
        x.takeOut(1);
        due("2@0 0@1", () -> chosen(x, 1));
        enter(x, "abc");
        due("2@0 0@1", () -> chosen(x, 1));
        x.takeOut(2);
        due("3@0", () -> chosen(x, 1));
        x.takeOut(3);
        due("4@0", () -> chosen(x, 1));
    }

    private static void ruleTwoEndsFirst() {
        says("Terms", "With the rule 2, earliest end, the next chosen occurrence is, among those whose place is "
            + "not less than the end of the one chosen before, the one that ends first");
        Ahoarch x = with("abcd", "bc", "cde", "d", "ef");
        feed(x, "abcdef");
        due("1@1 3@3 4@4", () -> chosen(x, 2));
        x.takeOut(3);
        due("1@1 4@4", () -> chosen(x, 2));
        x.takeOut(1);
        due("0@0 4@4", () -> chosen(x, 2));
    }

    private static void ruleTwoTheLongestThatEndsThere() {
        says("Terms", "and of several that end there the longest one");
        Ahoarch x = with("c", "abc", "bc");
        feed(x, "abc");
        due("1@0", () -> chosen(x, 2));
        // The longest one begins before the end of the one chosen before; the next is at that end.
        enter(x, "xa");
        x.clear();
        feed(x, "xabc");
        due("3@0 2@2", () -> chosen(x, 2));
        enter(x, "xab");
        due("3@0 2@2", () -> chosen(x, 2));
        x.takeOut(3);
        due("4@0 0@3", () -> chosen(x, 2));
        Ahoarch order = with("abc", "c", "bc");
        feed(order, "abc");
        due("0@0", () -> chosen(order, 2));
    }

    private static void goesOnUntilThereIsNone() {
        says("Terms", "It goes on until there is none.");
        Ahoarch x = with("b");
        feed(x, "a".repeat(199) + "b");
        dueChosen(x, "0@199", "0@199", "0@199");
        x.clear();
        feed(x, "b" + "a".repeat(100) + "b" + "a");
        dueChosen(x, "0@0 0@101", "0@0 0@101", "0@0 0@101");
        x.takeOut(0);
        dueChosen(x, "", "", "");
    }

    // ---- Terms: exceptions

    private static void questionsChangeNothing() {
        says("Not promised", "Nothing is promised beyond the answers and state changes described above");
        Ahoarch asked = busy();
        List<String> first = questions(asked);
        due(first.toString(), () -> questions(asked).toString());
        due(seen(busy()).toString(), () -> {
            Ahoarch other = busy();
            questions(other);
            return seen(other).toString();
        });
    }

    private static void documentedFirstIsThrown() {
        says("Terms", "If several exceptions apply, the one that is documented first is thrown.");
        refused(NO_ARGUMENT, () -> drafted(EIGHT), x -> x.draft('A'));
        refused(NO_ARGUMENT, BoundariesTest::fullStream, x -> x.feed('`'));
        refused(NO_ELEMENT, BoundariesTest::fullStream, x -> x.feedPattern(3));
        refused(NO_ELEMENT, BoundariesTest::fullStream, x -> x.feedPattern(-1));
        refused(NO_ELEMENT, BoundariesTest::busy, x -> x.occurrence(1, -1));
        refused(NO_ELEMENT, BoundariesTest::busy, x -> x.occurrence(4, MOST));
        refused(NO_ARGUMENT, BoundariesTest::busy, x -> x.chosenPattern(3, -1));
        refused(NO_ARGUMENT, BoundariesTest::busy, x -> x.chosenPattern(-1, MOST));
        refused(NO_ARGUMENT, BoundariesTest::busy, x -> x.chosenPlace(3, -1));
        refused(NO_ARGUMENT, BoundariesTest::busy, x -> x.chosenPlace(-1, MOST));
        refused(NO_ARGUMENT, BoundariesTest::busy, x -> x.replaced(3, -1));
        refused(NO_ARGUMENT, BoundariesTest::busy, x -> x.replaced(-1, MOST));
    }

    // ---- Promises 1 to 6

    private static void newObject() {
        says("Promise 1", "Creates a matcher without patterns, with an empty stream.");
        Ahoarch x = new Ahoarch();
        due("0 0 0", () -> x.patterns() + " " + x.streamLength() + " " + x.beginnings());
        due("0 0 0", () -> x.depth() + " " + x.ending() + " " + x.occurrences());
        due("0 0 0", () -> x.told() + " " + x.covered() + " " + x.mostApart());
        due("0", () -> "" + x.certain());
        for (int rule = 0; rule < 3; rule++) {
            int r = rule;
            due("0 0", () -> x.chosen(r) + " " + x.replacedLength(r));
        }
        for (int number : new int[] {0, 1, 39}) {
            due(NO_ELEMENT, () -> x.length(number));
        }
        due(0, x::clear);
        // One object's patterns and stream are not another's.
        busy();
        due("0 0", () -> x.patterns() + " " + x.streamLength());
    }

    private static void draftNoSuchLetter() {
        says("Promise 2", "Throws IllegalArgumentException if it is no such letter");
        due(1, () -> new Ahoarch().draft('a'));
        due(1, () -> new Ahoarch().draft('z'));
        for (char letter : WRONG_LETTERS.toCharArray()) {
            refused(NO_ARGUMENT, BoundariesTest::busy, x -> x.draft(letter));
            refused(NO_ARGUMENT, Ahoarch::new, x -> x.draft(letter));
        }
    }

    private static void draftHas8Letters() {
        says("Promise 2", "Throws IllegalStateException if the draft has 8 letters");
        due(8, () -> drafted("abcdefg").draft('h'));
        refused(NO_STATE, () -> drafted(EIGHT), x -> x.draft('i'));
        refused(NO_STATE, () -> withDraft(with("a"), EIGHT), x -> x.draft('a'));
    }

    private static void draftIsEmptyAtFirst() {
        says("Promise 2", "Adds a letter to the draft, which is empty at first. "
            + "Returns the number of letters of the draft then.");
        Ahoarch x = new Ahoarch();
        for (int size = 1; size <= 8; size++) {
            due(size, () -> x.draft('q'));
        }
        due(NO_STATE, () -> x.draft('q'));
        x.enter();
        due(1, () -> x.draft('q'));
    }

    private static void enterEmptyDraft() {
        says("Promise 3", "Throws IllegalStateException if the draft is empty");
        refused(NO_STATE, Ahoarch::new, Ahoarch::enter);
        refused(NO_STATE, () -> with("a"), Ahoarch::enter);
        refused(NO_STATE, () -> withReplacement(with("a"), 0, "b"), Ahoarch::enter);
        due(0, () -> drafted("a").enter());
    }

    private static void enterSameLetters() {
        says("Promise 3", "Throws IllegalStateException if there is a pattern with the same letters");
        refused(NO_STATE, () -> withDraft(with("xab", "ab", "abx"), "ab"), Ahoarch::enter);
        Ahoarch x = withDraft(with("xab", "ab", "abx"), "ab");
        due(NO_STATE, x::enter);
        // It stays refused until the pattern is taken out.
        due(NO_STATE, x::enter);
        x.takeOut(1);
        due(3, x::enter);
        due(3, x::patterns);
    }

    private static void enterThereAre20() {
        says("Promise 3", "Throws IllegalStateException if there are 20 patterns");
        due(19, () -> withDraft(patternsOf(19), EIGHT).enter());
        refused(NO_STATE, () -> withDraft(patternsOf(20), EIGHT), Ahoarch::enter);
        refused(NO_STATE, () -> patternsOf(20), Ahoarch::enter);
        // 20 at a time, not 20 in all.
        due(30, () -> withDraft(entered(30, 19), EIGHT).enter());
        refused(NO_STATE, () -> withDraft(entered(30, 20), EIGHT), Ahoarch::enter);
    }

    private static void enter40WereEntered() {
        says("Promise 3", "Throws IllegalStateException if 40 were entered");
        due(39, () -> withDraft(entered(39, 19), EIGHT).enter());
        due(39, () -> withDraft(entered(39, 0), EIGHT).enter());
        refused(NO_STATE, () -> withDraft(entered(40, 20), EIGHT), Ahoarch::enter);
        refused(NO_STATE, () -> withDraft(entered(40, 19), EIGHT), Ahoarch::enter);
        refused(NO_STATE, () -> withDraft(entered(40, 1), EIGHT), Ahoarch::enter);
        refused(NO_STATE, () -> withDraft(entered(40, 0), EIGHT), Ahoarch::enter);
    }

    private static void enterEmptiesTheDraft() {
        says("Promise 3", "Enters the draft as a pattern, and empties it.");
        Ahoarch x = drafted(EIGHT);
        due(0, x::enter);
        due(NO_STATE, x::enter);
        due(0, () -> x.setReplacement(0));
        due(0, () -> x.setReplacement(0));
        due(1, () -> x.draft('b'));
        due(1, x::enter);
        due(1, () -> x.length(1));
        due(2, () -> x.feedPattern(0));
        due(1, () -> x.occurrence(1, 0));
    }

    private static void setReplacementMayBeEmpty() {
        says("Promise 4", "Makes the draft, which may be empty, the replacement of a pattern");
        Ahoarch x = with("ab");
        feed(x, "ab");
        due(0, () -> x.setReplacement(0));
        due("", () -> replaced(x, 0));
        draft(x, "q");
        due(0, () -> x.setReplacement(0));
        due("q", () -> replaced(x, 0));
        due(1, () -> x.setReplacement(0));
        due("", () -> replaced(x, 0));
        // Unlike a pattern, it may have the letters of a pattern.
        draft(x, "ab");
        due(0, () -> x.setReplacement(0));
        due("ab", () -> replaced(x, 0));
    }

    private static void setReplacementEmptiesTheDraft() {
        says("Promise 4", "Makes the draft, which may be empty, the replacement of a pattern, and empties it.");
        Ahoarch x = withDraft(with("a", "b"), EIGHT);
        due(0, () -> x.setReplacement(0));
        due(NO_STATE, x::enter);
        due(0, () -> x.setReplacement(1));
        due(8, () -> x.setReplacement(0));
        due(1, () -> x.draft('c'));
        due(2, x::enter);
        due(1, () -> x.length(2));
    }

    private static void setReplacementLengthBefore() {
        says("Promise 4", "Returns the length of the replacement before.");
        Ahoarch x = with("a", "b");
        int before = 0;
        for (int size : new int[] {8, 1, 0, 0, 7}) {
            int due = before;
            draft(x, EIGHT.substring(0, size));
            due(due, () -> x.setReplacement(1));
            before = size;
        }
        due(0, () -> x.setReplacement(0));
    }

    private static void setReplacementNoSuchPattern() {
        says("Promise 4", "Throws NoSuchElementException if there is no such pattern");
        due("3 0 1", () -> {
            Ahoarch x = busy();
            return x.setReplacement(0) + " " + x.setReplacement(2) + " " + x.setReplacement(3);
        });
        refusesNumbers(Ahoarch::setReplacement);
    }

    private static void takeOutHowManyAreLeft() {
        says("Promise 5", "Returns how many patterns are left.");
        Ahoarch x = patternsOf(20);
        for (int number = 0; number < 20; number++) {
            int n = number;
            due(19 - number, () -> x.takeOut(n));
        }
        due(NO_ELEMENT, () -> x.takeOut(19));
        due(0, x::patterns);
    }

    private static void takeOutNoSuchPattern() {
        says("Promise 5", "Throws NoSuchElementException if there is no such pattern");
        due("2 1 0", () -> {
            Ahoarch x = busy();
            return x.takeOut(3) + " " + x.takeOut(0) + " " + x.takeOut(2);
        });
        refusesNumbers(Ahoarch::takeOut);
        refused(NO_ELEMENT, () -> entered(40, 0), x -> x.takeOut(39));
        due(0, () -> entered(40, 1).takeOut(39));
    }

    private static void patternsFrom0To20() {
        says("Promise 6", "Returns how many patterns there are.");
        due(0, () -> new Ahoarch().patterns());
        due(0, () -> drafted("a").patterns());
        due(1, () -> with("a").patterns());
        due(20, () -> patternsOf(20).patterns());
        due(20, () -> entered(40, 20).patterns());
        due(1, () -> entered(40, 1).patterns());
        due(0, () -> entered(40, 0).patterns());
    }

    // ---- Promises 7 to 10

    private static void lengthFrom1To8() {
        says("Promise 7", "Returns the number of letters of a pattern.");
        Ahoarch x = with("a", EIGHT, "abcdefg", "zz");
        due("1 8 7 2", () -> x.length(0) + " " + x.length(1) + " " + x.length(2) + " " + x.length(3));
        due(2, () -> entered(40, 1).length(39));
    }

    private static void lengthNoSuchPattern() {
        says("Promise 7", "Throws NoSuchElementException if there is no such pattern");
        due("2 3 1", () -> {
            Ahoarch x = busy();
            return x.length(0) + " " + x.length(2) + " " + x.length(3);
        });
        refusesNumbers(Ahoarch::length);
    }

    private static void beginningsDifferent() {
        says("Promise 8", "Returns how many different strings that are not empty are beginnings of patterns.");
        due(0, () -> new Ahoarch().beginnings());
        due(8, () -> with(EIGHT).beginnings());
        due(8, () -> with(EIGHT, "a", "abcdefg", "abc").beginnings());
        due(8, () -> with("a", "abc", "abcdefg", EIGHT).beginnings());
        // Differing in the last letter alone, and in the first alone.
        due(9, () -> with(EIGHT, "abcdefgz").beginnings());
        due(16, () -> with(EIGHT, "zbcdefgh").beginnings());
        due(160, () -> {
            Ahoarch x = new Ahoarch();
            for (char first = 'a'; first < 'a' + 20; first++) {
                enter(x, first + "bcdefgh");
            }
            return x.beginnings();
        });
        due(0, () -> entered(40, 0).beginnings());
        due(21, () -> patternsOf(20).beginnings());
    }

    private static void beginningsNotEmpty() {
        says("Promise 8", "strings that are not empty");
        due(1, () -> with("a").beginnings());
        due(2, () -> with("a", "b").beginnings());
        Ahoarch x = with("a", "ab");
        due(2, x::beginnings);
        x.takeOut(0);
        due(2, x::beginnings);
        x.takeOut(1);
        due(0, x::beginnings);
        due(0, () -> drafted("ab").beginnings());
    }

    private static void linkShorter() {
        says("Terms", "The link of a string that is a beginning of a pattern and not empty is the longest shorter "
            + "string that is an end of it and a beginning of a pattern.");
        Ahoarch x = with("aaaaaaaa", "abcdefgh", "bcdefghi", "gh");
        due(7, () -> x.link(0));
        due(7, () -> x.link(1));
        x.takeOut(2);
        due(2, () -> x.link(1));
        x.takeOut(3);
        due(0, () -> x.link(1));
        // It needs no whole pattern, and may be the pattern's own beginning.
        due(2, () -> with("abxab").link(0));
        due(2, () -> with("xab", "abz").link(0));
    }

    private static void linkNotEmpty() {
        says("Promise 9", "Returns the number of letters of the link of a pattern.");
        due(0, () -> with("a").link(0));
        due(0, () -> with("a", "ab", "aa").link(0));
        due(1, () -> with("aa").link(0));
        due(0, () -> with("ab", "cd").link(0));
        due(1, () -> with("ab", "b").link(0));
        due(0, () -> with("ab", "cb").link(0));
        due(0, () -> withDraft(with("ab"), "b").link(0));
    }

    private static void linkNoSuchPattern() {
        says("Promise 9", "Throws NoSuchElementException if there is no such pattern");
        due("1 0 0", () -> {
            Ahoarch x = busy();
            return x.link(0) + " " + x.link(2) + " " + x.link(3);
        });
        refusesNumbers(Ahoarch::link);
    }

    private static void overlapShorterThanBoth() {
        says("Promise 10", "the length of the longest string, shorter than both, that is an end of the first and "
            + "a beginning of the second one");
        due(7, () -> with("abcdefgh", "bcdefghi").overlap(0, 1));
        due(0, () -> with("abcdefgh", "bcdefghi").overlap(1, 0));
        // A whole pattern is not shorter than both.
        due(0, () -> with("xab", "ab").overlap(0, 1));
        due(0, () -> with("ab", "abx").overlap(0, 1));
        due(1, () -> with("xbb", "bb").overlap(0, 1));
        due(1, () -> with("bb", "bbx").overlap(0, 1));
        due(0, () -> with("a", "ab").overlap(0, 1));
        due(0, () -> with("ba", "a").overlap(0, 1));
        // Of the two alone: another pattern's beginning does not count.
        due(0, () -> with("ab", "cd", "bc").overlap(0, 1));
        due(1, () -> with("ab", "bc").overlap(0, 1));
    }

    private static void overlapMayBeTheSame() {
        says("Promise 10", "the number of the second pattern, which may be the same");
        due(7, () -> with("aaaaaaaa").overlap(0, 0));
        due(0, () -> with("a").overlap(0, 0));
        due(0, () -> with("ab").overlap(0, 0));
        due(2, () -> with("abcab").overlap(0, 0));
    }

    private static void overlapNoSuchPattern() {
        says("Promise 10", "Throws NoSuchElementException if there is no such pattern");
        due("0 1 0", () -> {
            Ahoarch x = with("ab", "q", "abc", "bca");
            x.takeOut(1);
            return x.overlap(0, 0) + " " + x.overlap(3, 0) + " " + x.overlap(2, 0);
        });
        refusesNumbers((x, number) -> x.overlap(number, 0));
        refusesNumbers((x, number) -> x.overlap(3, number));
        refusesNumbers((x, number) -> x.overlap(number, number));
    }

    // ---- Promises 11 to 14

    private static void feedNoSuchLetter() {
        says("Promise 11", "Throws IllegalArgumentException if it is no such letter");
        Ahoarch x = new Ahoarch();
        due(0, () -> x.feed('a'));
        due(0, () -> x.feed('z'));
        due(2, x::streamLength);
        for (char letter : WRONG_LETTERS.toCharArray()) {
            refused(NO_ARGUMENT, BoundariesTest::busy, y -> y.feed(letter));
            refused(NO_ARGUMENT, Ahoarch::new, y -> y.feed(letter));
        }
    }

    private static void feedStreamHas200() {
        says("Promise 11", "Throws IllegalStateException if the stream has 200 letters");
        Ahoarch x = streamOf(199);
        due(2, () -> x.feed('h'));
        due(200, x::streamLength);
        refused(NO_STATE, BoundariesTest::fullStream, y -> y.feed('h'));
        refused(NO_STATE, BoundariesTest::fullStream, y -> y.feed('a'));
        Ahoarch again = fullStream();
        again.clear();
        due(1, () -> again.feed('a'));
        due(1, again::streamLength);
    }

    private static void feedHowManyEnd() {
        says("Promise 11", "Returns how many occurrences end with this letter.");
        due(0, () -> new Ahoarch().feed('a'));
        Ahoarch x = with("a", "aa", "aaa", "aaaa", "aaaaa", "aaaaaa", "aaaaaaa", "aaaaaaaa");
        for (int letters = 1; letters <= 10; letters++) {
            due(Math.min(letters, 8), () -> x.feed('a'));
        }
        due(0, () -> x.feed('b'));
        due(1, () -> x.feed('a'));
    }

    private static void feedPatternNoSuchPattern() {
        says("Promise 12", "Throws NoSuchElementException if there is no such pattern");
        due("1 3 1", () -> {
            Ahoarch x = busy();
            x.clear();
            return (x.feedPattern(0) - 1) + " " + x.feedPattern(2) + " " + x.feedPattern(3);
        });
        refusesNumbers(Ahoarch::feedPattern);
    }

    private static void feedPatternMoreThan200() {
        says("Promise 12", "Throws IllegalStateException if the stream would have more than 200 letters");
        // Pattern 0 has 8 letters, pattern 1 one.
        due(3, () -> streamOf(192).feedPattern(0));
        due(200, () -> {
            Ahoarch x = streamOf(192);
            x.feedPattern(0);
            return x.streamLength();
        });
        for (int size = 193; size <= 200; size++) {
            int letters = size;
            refused(NO_STATE, () -> streamOf(letters), x -> x.feedPattern(0));
        }
        due(1, () -> streamOf(199).feedPattern(1));
        refused(NO_STATE, () -> streamOf(200), x -> x.feedPattern(1));
    }

    private static void feedPatternHowManyEnd() {
        says("Promise 12", "Returns how many occurrences end with these letters.");
        // One that begins before these letters counts, one that ends before them does not.
        Ahoarch x = with("bc", "ab", "xb", "c", "a");
        feed(x, "a");
        due(3, () -> x.feedPattern(0));
        due(1, () -> x.feedPattern(4));
        due(2, () -> x.feedPattern(1));
        Ahoarch y = with("aaaaaaaa", "a", "aaaa");
        due(8 + 5 + 1, () -> y.feedPattern(0));
        due(8 + 8 + 8, () -> y.feedPattern(0));
    }

    private static void clearHowManyItHad() {
        says("Promise 13", "Returns how many letters it had.");
        due(0, () -> new Ahoarch().clear());
        due(0, () -> with("ab").clear());
        due(1, () -> streamOf(1).clear());
        Ahoarch x = fullStream();
        due(200, x::clear);
        due(0, x::clear);
    }

    private static void clearEmptiesTheStream() {
        says("Promise 13", "Empties the stream.");
        Ahoarch x = fullStream();
        x.clear();
        due("0 0 0 0", () -> x.streamLength() + " " + x.depth() + " " + x.ending() + " " + x.occurrences());
        due("0 0 0 0", () -> x.told() + " " + x.covered() + " " + x.mostApart() + " " + x.certain());
        dueChosen(x, "", "", "");
        for (int rule = 0; rule < 3; rule++) {
            int r = rule;
            due(0, () -> x.replacedLength(r));
        }
        due(NO_INDEX, () -> x.endingPattern(0));
        due(NO_INDEX, () -> x.occurrence(1, 0));
        // No occurrence is made of letters from before and after.
        Ahoarch y = with("ab");
        feed(y, "a");
        y.clear();
        due(0, () -> y.feed('b'));
        due(0, y::occurrences);
        due(0, y::depth);
        // It can be filled again.
        for (int times = 0; times < 25; times++) {
            x.feedPattern(0);
        }
        due(200, x::streamLength);
    }

    private static void clearLeavesTheRest() {
        says("Promise 13", "Empties the stream.");
        // Nothing is said of the patterns, their replacements and the draft.
        Ahoarch x = busy();
        x.clear();
        due(3, x::patterns);
        due(3, () -> x.draft('r'));
        due(4, x::enter);
        due(3, () -> x.length(4));
        due(3, () -> x.setReplacement(0));
        due(0, () -> x.setReplacement(2));
        due(1, () -> x.setReplacement(3));
    }

    private static void streamLengthFrom0To200() {
        says("Promise 14", "Returns the number of letters of the stream.");
        due(0, () -> new Ahoarch().streamLength());
        for (int size : new int[] {1, 8, 199, 200}) {
            due(size, () -> streamOf(size).streamLength());
        }
    }

    // ---- Promises 15 to 17

    private static void depthOfNothing() {
        says("Promise 15", "Returns the depth of the state.");
        due(0, () -> new Ahoarch().depth());
        due(0, () -> with("a").depth());
        due(0, () -> drafted("a").depth());
        due(0, () -> fed(new Ahoarch(), "abc").depth());
        Ahoarch x = fed(with("ab"), "ab");
        due(2, x::depth);
        x.clear();
        due(0, x::depth);
        // A full stream: the last letters count, as many as the longest pattern has.
        due(8, () -> fullStream().depth());
        due(7, () -> streamOf(199).depth());
    }

    private static void depthWholePatternAndEmptyString() {
        says("Terms", "the whole pattern and the empty string count, too. Its depth is the number of its letters.");
        Ahoarch x = with("a", EIGHT);
        feed(x, "z");
        due(0, x::depth);
        for (int letters = 1; letters <= 8; letters++) {
            feed(x, EIGHT.substring(letters - 1, letters));
            due(letters, x::depth);
        }
        feed(x, "h");
        due(0, x::depth);
    }

    private static void depthAnEndOfTheStream() {
        says("Terms", "The state of the matcher is the longest string of letters that is an end of the stream and "
            + "a beginning of a pattern");
        Ahoarch x = with("abab", "babz");
        feed(x, "ab");
        due(2, x::depth);
        feed(x, "ab");
        due(4, x::depth);
        feed(x, "z");
        due(4, x::depth);
        feed(x, "a");
        due(1, x::depth);
        feed(x, "baba");
        due(3, x::depth);
        x.takeOut(0);
        due(2, x::depth);
        enter(x, "babax");
        due(4, x::depth);
    }

    private static void endingZeroIfEmpty() {
        says("Promise 16", "Returns how many occurrences end with the last letter of the stream; 0 if it is empty.");
        due(0, () -> new Ahoarch().ending());
        due(0, () -> with("a").ending());
        Ahoarch x = with("a");
        feed(x, "a");
        due(1, x::ending);
        x.clear();
        due(0, x::ending);
    }

    private static void endingUpToEight() {
        says("Promise 16", "Returns how many occurrences end with the last letter of the stream");
        Ahoarch x = with("a", "aa", "aaa", "aaaa", "aaaaa", "aaaaaa", "aaaaaaa", "aaaaaaaa");
        for (int letters = 1; letters <= 9; letters++) {
            feed(x, "a");
            due(Math.min(letters, 8), x::ending);
        }
        feed(x, "b");
        due(0, x::ending);
        due(2, () -> fullStream().ending());
    }

    private static void endingPatternLongestFirst() {
        says("Promise 17", "0 for the longest one, 1 for the next shorter one, and so on");
        Ahoarch x = with("aaaa", "a", "aaaaaaaa", "aa");
        feed(x, "aaaaaaaa");
        due("2 0 3 1", () -> x.endingPattern(0) + " " + x.endingPattern(1) + " " + x.endingPattern(2) + " "
            + x.endingPattern(3));
        due(NO_INDEX, () -> x.endingPattern(4));
    }

    private static void endingPatternNoSuchOccurrence() {
        says("Promise 17", "Throws IndexOutOfBoundsException if there is no such occurrence");
        due("0 3", () -> {
            Ahoarch x = busy();
            return x.endingPattern(0) + " " + x.endingPattern(1);
        });
        for (int index : new int[] {-1, 2, 8, 20, LEAST, MOST}) {
            refused(NO_INDEX, BoundariesTest::busy, x -> x.endingPattern(index));
        }
        refused(NO_INDEX, Ahoarch::new, x -> x.endingPattern(0));
        refused(NO_INDEX, () -> with("a"), x -> x.endingPattern(0));
        // No pattern; and none that ends with the last letter.
        refused(NO_INDEX, () -> fed(new Ahoarch(), "a"), x -> x.endingPattern(0));
        refused(NO_INDEX, () -> fed(with("a"), "ab"), x -> x.endingPattern(0));
        due(7, () -> fed(with("a", "aa", "aaa", "aaaa", "aaaaa", "aaaaaa", "aaaaaaa", "aaaaaaaa"), "aaaaaaaa")
            .endingPattern(0));
        due(0, () -> fed(with("a", "aa", "aaa", "aaaa", "aaaaa", "aaaaaa", "aaaaaaa", "aaaaaaaa"), "aaaaaaaa")
            .endingPattern(7));
    }

    // ---- Promises 18 to 23

    private static void occurrencesNoneAndMost() {
        says("Promise 18", "Returns how many occurrences there are.");
        due(0, () -> new Ahoarch().occurrences());
        due(0, () -> with("a").occurrences());
        due(0, () -> fed(new Ahoarch(), "a").occurrences());
        Ahoarch x = with("a", "aa", "aaa", "aaaa", "aaaaa", "aaaaaa", "aaaaaaa", "aaaaaaaa");
        feed(x, "a".repeat(200));
        due(8 * 200 - 28, x::occurrences);
        // At the first and at the last place.
        due(2, () -> fed(with("ab"), "abcab").occurrences());
    }

    private static void occurrencesOfNoneAndMost() {
        says("Promise 19", "Returns how many occurrences of a pattern there are.");
        due(0, () -> with("a").occurrencesOf(0));
        due(0, () -> fed(with("aa"), "a").occurrencesOf(0));
        due(1, () -> fed(with("aa"), "aa").occurrencesOf(0));
        due(2, () -> fed(with("aa"), "aaa").occurrencesOf(0));
        Ahoarch x = with("a", "aaaaaaaa");
        feed(x, "a".repeat(200));
        due(200, () -> x.occurrencesOf(0));
        due(193, () -> x.occurrencesOf(1));
    }

    private static void occurrencesOfNoSuchPattern() {
        says("Promise 19", "Throws NoSuchElementException if there is no such pattern");
        due("2 1 3", () -> {
            Ahoarch x = busy();
            return x.occurrencesOf(0) + " " + x.occurrencesOf(2) + " " + x.occurrencesOf(3);
        });
        refusesNumbers(Ahoarch::occurrencesOf);
    }

    private static void occurrenceFirstAndLast() {
        says("Promise 20", "Returns the place of an occurrence of a pattern. index: 0 for the first one");
        Ahoarch x = with("a", "aaaaaaaa");
        feed(x, "a".repeat(200));
        due("0 1 199", () -> x.occurrence(0, 0) + " " + x.occurrence(0, 1) + " " + x.occurrence(0, 199));
        due("0 1 192", () -> x.occurrence(1, 0) + " " + x.occurrence(1, 1) + " " + x.occurrence(1, 192));
        due(NO_INDEX, () -> x.occurrence(0, 200));
        due(NO_INDEX, () -> x.occurrence(1, 193));
    }

    private static void occurrenceNoSuchPattern() {
        says("Promise 20", "Throws NoSuchElementException if there is no such pattern");
        refusesNumbers((x, number) -> x.occurrence(number, 0));
        refusesNumbers((x, number) -> x.occurrence(number, -1));
        refusesNumbers((x, number) -> x.occurrence(number, MOST));
    }

    private static void occurrenceNoSuchOccurrence() {
        says("Promise 20", "Throws IndexOutOfBoundsException if there is no such occurrence");
        // busy() has pattern 3 at the places 2, 4 and 6.
        due("2 4 6", () -> {
            Ahoarch x = busy();
            return x.occurrence(3, 0) + " " + x.occurrence(3, 1) + " " + x.occurrence(3, 2);
        });
        for (int index : new int[] {-1, 3, 200, LEAST, MOST}) {
            refused(NO_INDEX, BoundariesTest::busy, x -> x.occurrence(3, index));
        }
        refused(NO_INDEX, () -> with("a"), x -> x.occurrence(0, 0));
        refused(NO_INDEX, () -> fed(with("a"), "b"), x -> x.occurrence(0, 0));
    }

    private static void toldSinceEmptiedOrCreated() {
        says("Promise 21", "Returns how many occurrences were told by feed and feedPattern since the stream was "
            + "emptied or the matcher created");
        due(0, () -> new Ahoarch().told());
        Ahoarch x = with("a", "aa");
        due(0, x::told);
        feed(x, "aa");
        due(3, x::told);
        x.clear();
        due(0, x::told);
        feed(x, "a");
        due(1, x::told);
        x.clear();
        x.clear();
        due(0, x::told);
    }

    private static void toldIsTheSumOfWhatTheyReturned() {
        says("Promise 21", "the sum of what they returned");
        Ahoarch x = with("a", "aa", "b");
        feed(x, "aab");
        due(2, () -> x.feedPattern(0) + 1);
        due(5, x::told);
        // Patterns that come and go later change nothing of what was told.
        enter(x, "aab");
        x.takeOut(0);
        due(5, x::told);
        due(3, x::occurrences);
        due(1, () -> x.feed('a'));
        due(6, x::told);
        // A refused call told nothing.
        due(NO_ARGUMENT, () -> x.feed('A'));
        due(NO_ELEMENT, () -> x.feedPattern(0));
        due(6, x::told);
        Ahoarch full = with("a", "aa", "aaa", "aaaa", "aaaaa", "aaaaaa", "aaaaaaa", "aaaaaaaa");
        for (int times = 0; times < 25; times++) {
            full.feedPattern(7);
        }
        due(8 * 200 - 28, full::told);
        due(NO_STATE, () -> full.feedPattern(0));
        due(NO_STATE, () -> full.feed('a'));
        due(8 * 200 - 28, full::told);
    }

    private static void coveredNoneAndAll() {
        says("Promise 22", "Returns how many letters of the stream belong to an occurrence.");
        due(0, () -> new Ahoarch().covered());
        due(0, () -> with("a").covered());
        due(0, () -> fed(with("ab"), "aabb".substring(2)).covered());
        due(0, () -> fed(new Ahoarch(), "a").covered());
        Ahoarch x = with("aaaaaaaa");
        feed(x, "a".repeat(200));
        due(200, x::covered);
        // The first and the last letter.
        due(2, () -> fed(with("a"), "a" + "b".repeat(198) + "a").covered());
        due(7, () -> fed(with("aaaaaaa"), "aaaaaaa").covered());
        due(0, () -> fed(with("aaaaaaaa"), "aaaaaaa").covered());
    }

    private static void coveredOnceEach() {
        says("Promise 22", "how many letters of the stream belong to an occurrence");
        // A letter of several occurrences is one letter; one between two touching ones is none.
        due(3, () -> fed(with("ab", "bc", "b"), "abc").covered());
        due(4, () -> fed(with("ab", "cd"), "abcd").covered());
        due(4, () -> fed(with("ab", "cd"), "abxcd").covered());
        due(8, () -> fed(with(EIGHT, "c", "de"), EIGHT + "b").covered());
    }

    private static void mostApartNoLetterInCommon() {
        says("Promise 23", "Returns the greatest number of occurrences that can be chosen so that no two have a "
            + "letter of the stream in common.");
        // Touching they have none in common, sharing one letter they have.
        due(2, () -> fed(with("ab", "cd"), "abcd").mostApart());
        due(1, () -> fed(with("ab", "bc"), "abc").mostApart());
        due(2, () -> fed(with("aba"), "abaaba").mostApart());
        due(1, () -> fed(with("aba"), "ababa").mostApart());
        // More than the rules 0 and 1 choose.
        Ahoarch x = with(EIGHT, "ab", "cd", "ef", "gh");
        feed(x, EIGHT);
        due("1 1 4", () -> x.chosen(0) + " " + x.chosen(1) + " " + x.mostApart());
        due(2, () -> fed(with("abcd", "bc", "def"), "abcdef").mostApart());
    }

    private static void mostApartNoneAndMost() {
        says("Promise 23", "the greatest number of occurrences");
        due(0, () -> new Ahoarch().mostApart());
        due(0, () -> with("a").mostApart());
        due(0, () -> fed(new Ahoarch(), "a").mostApart());
        due(0, () -> fed(with("b"), "a").mostApart());
        Ahoarch x = with("aaaaaaaa", "aa", "a");
        feed(x, "a".repeat(200));
        due(200, x::mostApart);
        x.takeOut(2);
        due(100, x::mostApart);
        x.takeOut(1);
        due(25, x::mostApart);
    }

    // ---- Promises 24 to 26

    private static void chosenRuleOutOfRange() {
        says("Promise 24", "Throws IllegalArgumentException if rule is out of range");
        due("3 3 3", () -> {
            Ahoarch x = busy();
            return x.chosen(0) + " " + x.chosen(1) + " " + x.chosen(2);
        });
        refusesRules(Ahoarch::chosen);
    }

    private static void chosenNoneAndMost() {
        says("Promise 24", "Returns how many occurrences are chosen by a rule.");
        Ahoarch most = with("a");
        feed(most, "a".repeat(200));
        for (int rule = 0; rule < 3; rule++) {
            int r = rule;
            due(0, () -> new Ahoarch().chosen(r));
            due(0, () -> with("a").chosen(r));
            due(0, () -> fed(new Ahoarch(), "a").chosen(r));
            due(0, () -> fed(with("b"), "a").chosen(r));
            due(200, () -> most.chosen(r));
        }
    }

    private static void chosenPatternRuleOutOfRange() {
        says("Promise 25", "Throws IllegalArgumentException if rule is out of range");
        due("2 0 0", () -> {
            Ahoarch x = busy();
            return x.chosenPattern(0, 0) + " " + x.chosenPattern(1, 0) + " " + x.chosenPattern(2, 0);
        });
        refusesRules((x, rule) -> x.chosenPattern(rule, 0));
    }

    private static void chosenPatternNoSuchOccurrence() {
        says("Promise 25", "Throws IndexOutOfBoundsException if there is no such occurrence");
        due("2 3 0", () -> {
            Ahoarch x = busy();
            return x.chosenPattern(0, 0) + " " + x.chosenPattern(0, 1) + " " + x.chosenPattern(0, 2);
        });
        refusesChosen(Ahoarch::chosenPattern);
        Ahoarch most = with("b", "a");
        feed(most, "a".repeat(199) + "b");
        for (int rule = 0; rule < 3; rule++) {
            int r = rule;
            due(1, () -> most.chosenPattern(r, 198));
            due(0, () -> most.chosenPattern(r, 199));
            due(NO_INDEX, () -> most.chosenPattern(r, 200));
        }
    }

    private static void chosenPlaceRuleOutOfRange() {
        says("Promise 26", "Throws IllegalArgumentException if rule is out of range");
        due("1 1 1", () -> {
            Ahoarch x = busy();
            return x.chosenPlace(0, 0) + " " + x.chosenPlace(1, 0) + " " + x.chosenPlace(2, 0);
        });
        refusesRules((x, rule) -> x.chosenPlace(rule, 0));
    }

    private static void chosenPlaceNoSuchOccurrence() {
        says("Promise 26", "Throws IndexOutOfBoundsException if there is no such occurrence");
        due("1 4 5", () -> {
            Ahoarch x = busy();
            return x.chosenPlace(2, 0) + " " + x.chosenPlace(2, 1) + " " + x.chosenPlace(2, 2);
        });
        refusesChosen(Ahoarch::chosenPlace);
        Ahoarch most = with("a");
        feed(most, "a".repeat(200));
        for (int rule = 0; rule < 3; rule++) {
            int r = rule;
            due(0, () -> most.chosenPlace(r, 0));
            due(199, () -> most.chosenPlace(r, 199));
            due(NO_INDEX, () -> most.chosenPlace(r, 200));
        }
    }

    // ---- Promises 27 to 29

    private static void replacedLengthRuleOutOfRange() {
        says("Promise 27", "Throws IllegalArgumentException if rule is out of range");
        due("5 9 9", () -> {
            Ahoarch x = busy();
            return x.replacedLength(0) + " " + x.replacedLength(1) + " " + x.replacedLength(2);
        });
        refusesRules(Ahoarch::replacedLength);
    }

    private static void replacedLengthNoneAndMost() {
        says("Promise 27", "Returns the length of the stream in which each occurrence chosen by a rule is replaced "
            + "by the replacement of its pattern.");
        Ahoarch most = withReplacement(with("a"), 0, EIGHT);
        feed(most, "a".repeat(200));
        Ahoarch nothing = with("a");
        feed(nothing, "a".repeat(200));
        Ahoarch same = with("b");
        feed(same, "a".repeat(200));
        for (int rule = 0; rule < 3; rule++) {
            int r = rule;
            due(0, () -> new Ahoarch().replacedLength(r));
            due(0, () -> withReplacement(with("a"), 0, EIGHT).replacedLength(r));
            due(1600, () -> most.replacedLength(r));
            due(0, () -> nothing.replacedLength(r));
            due(200, () -> same.replacedLength(r));
        }
    }

    private static void replacedRuleOutOfRange() {
        says("Promise 28", "Throws IllegalArgumentException if rule is out of range");
        due("zzz", () -> {
            Ahoarch x = busy();
            return "" + x.replaced(0, 0) + x.replaced(1, 0) + x.replaced(2, 0);
        });
        refusesRules((x, rule) -> x.replaced(rule, 0));
    }

    private static void replacedNoSuchLetter() {
        says("Promise 28", "Throws IndexOutOfBoundsException if there is no such letter");
        due("znklm", () -> replaced(busy(), 0));
        due("zklmcnklm", () -> replaced(busy(), 1));
        due("zklmcnklm", () -> replaced(busy(), 2));
        for (int rule = 0; rule < 3; rule++) {
            int r = rule;
            int letters = rule == 0 ? 5 : 9;
            for (int index : new int[] {-1, letters, 200, 1600, LEAST, MOST}) {
                refused(NO_INDEX, BoundariesTest::busy, x -> x.replaced(r, index));
            }
            refused(NO_INDEX, Ahoarch::new, x -> x.replaced(r, 0));
            // The stream is not empty, what is left of it is.
            refused(NO_INDEX, () -> fed(with("a"), "aa"), x -> x.replaced(r, 0));
        }
        Ahoarch most = withReplacement(with("a"), 0, EIGHT);
        feed(most, "a".repeat(200));
        due("ah", () -> "" + most.replaced(1, 0) + most.replaced(1, 1599));
        due(NO_INDEX, () -> most.replaced(1, 1600));
        Ahoarch same = fed(with("b"), "x" + "a".repeat(198) + "z");
        due("xz", () -> "" + same.replaced(2, 0) + same.replaced(2, 199));
        due(NO_INDEX, () -> same.replaced(2, 200));
    }

    private static void replacedEachOccurrence() {
        says("Promise 28", "the stream in which each occurrence chosen by a rule is replaced by the replacement of "
            + "its pattern");
        // At the first place, at the last, touching, and with what the replacements alone would make.
        Ahoarch x = withReplacement(with("ab", "c"), 0, "ccab");
        feed(x, "abxabcab");
        for (int rule = 0; rule < 3; rule++) {
            int r = rule;
            due("ccabxccabccab", () -> replaced(x, r));
        }
        // The replacement that there is now, not the one at the feeding.
        replaceBy(x, 1, "q");
        replaceBy(x, 0, "");
        due("xq", () -> replaced(x, 0));
    }

    private static void certainRestIsNotEmpty() {
        says("Promise 29", "if the rest of the stream from a place on is not empty, and is the beginning of a "
            + "pattern that is longer, one stops there");
        Ahoarch x = withReplacement(with("aaaaaaaa"), 0, "xyz");
        feed(x, "b");
        due(1, x::certain);
        for (int letters = 1; letters < 8; letters++) {
            feed(x, "a");
            due(1, x::certain);
        }
        // Behind the whole pattern the rest is empty.
        feed(x, "a");
        due(4, x::certain);
        feed(x, "aaa");
        due(4, x::certain);
        due(0, () -> fed(with("ab"), "a").certain());
        due(0, () -> fed(with(EIGHT), "abcdefg").certain());
        // The rest is the whole of it, not a part.
        due(3, () -> fed(with("abx"), "abc").certain());
    }

    private static void certainPatternThatIsLonger() {
        says("Promise 29", "is the beginning of a pattern that is longer");
        Ahoarch x = withReplacement(with("ab"), 0, "xyz");
        feed(x, "ab");
        due(3, x::certain);
        enter(x, "abc");
        due(0, x::certain);
        x.takeOut(1);
        due(3, x::certain);
        enter(x, "xab");
        due(3, x::certain);
        due(8, () -> fed(withReplacement(with(EIGHT), 0, "klmnopqr"), EIGHT).certain());
    }

    private static void certainBehindTheLongest() {
        says("Promise 29", "otherwise, if there are occurrences at this place, one goes on behind the longest of them");
        Ahoarch x = withReplacement(with("a", "abc", "ab", "bcd", "cx"), 1, "kl");
        feed(x, "abc");
        // "bc" and "c" may still become patterns, but lie within the longest.
        due(2, x::certain);
        feed(x, "d");
        due(3, x::certain);
        feed(x, "c");
        due(3, x::certain);
        x.takeOut(1);
        due(2, x::certain);
    }

    private static void certainToTheNextPlace() {
        says("Promise 29", "otherwise to the next place");
        due(3, () -> fed(with("abc"), "xyz").certain());
        due(2, () -> fed(with("abc"), "xyab").certain());
        due(1, () -> fed(with("abc"), "aab").certain());
        due(2, () -> fed(with("bc"), "abb").certain());
    }

    private static void certainStopsAtTheEnd() {
        says("Promise 29", "One also stops at the end of the stream.");
        Ahoarch most = withReplacement(with("a"), 0, EIGHT);
        feed(most, "a".repeat(200));
        due(1600, most::certain);
        Ahoarch same = with("b");
        feed(same, "a".repeat(200));
        due(200, same::certain);
        // At the last place of a full stream a rest may still be a beginning.
        due(199, () -> fed(with("bc"), "a".repeat(199) + "b").certain());
        due(2, () -> fed(new Ahoarch(), "ab").certain());
    }

    private static void certainByTheRule0() {
        says("Promise 29", "Returns how many first letters of the replaced stream, by the rule 0, are certain, "
            + "whatever letters still come.");
        Ahoarch x = withReplacement(withReplacement(with("a", "abc"), 0, "pppp"), 1, "q");
        feed(x, "abcz");
        due("2 6 6", () -> x.replacedLength(0) + " " + (x.replacedLength(1) - 1) + " " + (x.replacedLength(2) - 1));
        due(2, x::certain);
        // What is certain stays, whatever comes.
        Ahoarch y = withReplacement(withReplacement(with("ab", "abcd"), 0, "kl"), 1, "mno");
        feed(y, "xababc");
        due(3, y::certain);
        due("xkl", () -> replaced(y, 0).substring(0, 3));
        feed(y, "d");
        due("xklmno", () -> replaced(y, 0));
        due(6, y::certain);
    }

    private static void certainOfAnEmptyStream() {
        says("Promise 29", "Returns how many letters of the replaced stream come from what is before the place at "
            + "which one stops.");
        due(0, () -> new Ahoarch().certain());
        due(0, () -> withReplacement(with("a"), 0, EIGHT).certain());
        Ahoarch gone = with("a");
        feed(gone, "aa");
        due(0, gone::certain);
        feed(gone, "b");
        due(1, gone::certain);
    }

    // ---- objects in the states that are asked

    /** Patterns 0, 2 and 3 (1 was taken out), two replacements, a stream and a draft of two letters. */
    private static Ahoarch busy() {
        Ahoarch x = with("ab", "q", "abc", "b");
        x.takeOut(1);
        replaceBy(x, 0, "klm");
        replaceBy(x, 3, "n");
        feed(x, "zabcbab");
        return withDraft(x, "pq");
    }

    /** A stream of so many letters, the pattern 0 of 8 letters again and again, with a draft of two. */
    private static Ahoarch streamOf(int size) {
        Ahoarch x = with(EIGHT, "a", "h");
        replaceBy(x, 0, "kl");
        for (int times = 0; times < size / 8; times++) {
            x.feedPattern(0);
        }
        feed(x, EIGHT.substring(0, size % 8));
        return withDraft(x, "pq");
    }

    private static Ahoarch fullStream() {
        return streamOf(200);
    }

    private static Ahoarch patternsOf(int count) {
        return entered(count, count);
    }

    /** So many patterns entered in all, of which the last ones are left. */
    private static Ahoarch entered(int count, int left) {
        Ahoarch x = new Ahoarch();
        int next = 0;
        for (int number = 0; number < count; number++) {
            // Room for the next: one out for one in, as soon as no more are to be left.
            if (number - next >= Math.max(1, left)) {
                x.takeOut(next);
                next++;
            }
            enter(x, pair(number));
        }
        while (count - next > left) {
            x.takeOut(next);
            next++;
        }
        return x;
    }

    private static Ahoarch drafted(String letters) {
        return withDraft(new Ahoarch(), letters);
    }

    private static Ahoarch withDraft(Ahoarch x, String letters) {
        draft(x, letters);
        return x;
    }

    private static Ahoarch withReplacement(Ahoarch x, int pattern, String letters) {
        replaceBy(x, pattern, letters);
        return x;
    }

    private static Ahoarch fed(Ahoarch x, String letters) {
        feed(x, letters);
        return x;
    }

    // ---- what is asked of all calls of one kind

    /** Of busy(): taken out, not yet entered, never to be entered, and beyond all rows. */
    private static void refusesNumbers(BiFunction<Ahoarch, Integer, ?> call) {
        for (int number : new int[] {1, 4, -1, 5, 19, 20, 39, 40, 41, LEAST, LEAST + 3, MOST}) {
            refused(NO_ELEMENT, BoundariesTest::busy, x -> call.apply(x, number));
        }
        refused(NO_ELEMENT, Ahoarch::new, x -> call.apply(x, 0));
        refused(NO_ELEMENT, () -> drafted("ab"), x -> call.apply(x, 0));
    }

    private static void refusesRules(BiFunction<Ahoarch, Integer, ?> call) {
        for (int rule : new int[] {-1, 3, LEAST, LEAST + 1, MOST, 256}) {
            refused(NO_ARGUMENT, BoundariesTest::busy, x -> call.apply(x, rule));
            refused(NO_ARGUMENT, Ahoarch::new, x -> call.apply(x, rule));
        }
    }

    private interface ChosenCall {
        int ask(Ahoarch x, int rule, int index);
    }

    /** By each rule busy() has three chosen occurrences. */
    private static void refusesChosen(ChosenCall call) {
        for (int rule = 0; rule < 3; rule++) {
            int r = rule;
            for (int index : new int[] {-1, 3, 199, 200, 201, LEAST, MOST}) {
                refused(NO_INDEX, BoundariesTest::busy, x -> call.ask(x, r, index));
            }
            refused(NO_INDEX, Ahoarch::new, x -> call.ask(x, r, 0));
            refused(NO_INDEX, () -> with("a"), x -> call.ask(x, r, 0));
            refused(NO_INDEX, () -> fed(with("a"), "b"), x -> call.ask(x, r, 0));
        }
    }

    private static void dueChosen(Ahoarch x, String byLongest, String byNumber, String byEnd) {
        due(byLongest, () -> chosen(x, 0));
        due(byNumber, () -> chosen(x, 1));
        due(byEnd, () -> chosen(x, 2));
    }

    /** The chosen occurrences, each as its pattern's number and its place. */
    private static String chosen(Ahoarch x, int rule) {
        List<String> parts = new ArrayList<>();
        int count = x.chosen(rule);
        for (int index = 0; index < count; index++) {
            parts.add(x.chosenPattern(rule, index) + "@" + x.chosenPlace(rule, index));
        }
        return String.join(" ", parts);
    }

    // ---- that a refused call changed nothing

    /** The call answers so, and the object then shows what one shows that was made alike but not asked. */
    private static void refused(String want, Supplier<Ahoarch> made, Function<Ahoarch, ?> call) {
        Ahoarch asked = made.get();
        due(want, () -> call.apply(asked));
        String untouched = seen(made.get()).toString();
        due(untouched, () -> seen(asked).toString());
    }

    /** All that questions show, and then, by calls that change the object, its draft and its next number. */
    private static List<String> seen(Ahoarch x) {
        List<String> answers = questions(x);
        int first = firstPattern(x);
        if (first >= 0) {
            answers.add("replacement before " + answer(() -> x.setReplacement(first)));
            answers.add("clear " + answer(x::clear));
            answers.add("feedPattern " + answer(() -> x.feedPattern(first)));
            answers.add("draft " + replaced(x, 0));
            answers.add("takeOut " + answer(() -> x.takeOut(first)));
        } else {
            answers.add("draft entered as " + answer(x::enter));
            answers.add("its length " + answer(() -> x.length(firstPattern(x))));
        }
        answers.add("draft then " + answer(() -> x.draft('z')));
        answers.add("draft then " + answer(() -> x.draft('z')));
        answers.add("next number " + answer(x::enter));
        return answers;
    }

    private static int firstPattern(Ahoarch x) {
        for (int number = 0; number < 40; number++) {
            int n = number;
            if (!answer(() -> x.length(n)).startsWith("throws.")) {
                return number;
            }
        }
        return -1;
    }

    /** The answers of all questions, of long rows the first and last ones; at most some 200 calls. */
    private static List<String> questions(Ahoarch x) {
        List<String> answers = new ArrayList<>();
        answers.add("patterns " + x.patterns() + ", beginnings " + x.beginnings());
        answers.add("streamLength " + x.streamLength() + ", depth " + x.depth() + ", ending " + x.ending());
        answers.add("occurrences " + x.occurrences() + ", told " + x.told() + ", covered " + x.covered());
        answers.add("mostApart " + x.mostApart() + ", certain " + x.certain());
        for (int number = 0; number < 40; number++) {
            questionsOf(x, number, answers);
        }
        for (int index = 0; index < x.ending(); index++) {
            answers.add("endingPattern " + x.endingPattern(index));
        }
        for (int rule = 0; rule < 3; rule++) {
            questionsBy(x, rule, answers);
        }
        return answers;
    }

    private static void questionsOf(Ahoarch x, int number, List<String> answers) {
        String length = answer(() -> x.length(number));
        if (length.startsWith("throws.")) {
            return;
        }
        answers.add("pattern " + number + ": length " + length + ", link " + x.link(number)
            + ", overlap " + x.overlap(number, number) + ", occurrencesOf " + x.occurrencesOf(number)
            + ", first " + answer(() -> x.occurrence(number, 0)));
    }

    private static void questionsBy(Ahoarch x, int rule, List<String> answers) {
        int count = x.chosen(rule);
        answers.add("chosen " + count);
        for (int index = 0; index < count; index++) {
            if (index < 3 || index >= count - 3) {
                answers.add(x.chosenPattern(rule, index) + "@" + x.chosenPlace(rule, index));
            }
        }
        int size = x.replacedLength(rule);
        answers.add("replacedLength " + size);
        for (int index = 0; index < size; index++) {
            if (index < 3 || index >= size - 10) {
                answers.add("replaced " + x.replaced(rule, index));
            }
        }
    }

    private static void says(String place, String words) {
        about(place + ", \"" + words + "\"");
    }
}
