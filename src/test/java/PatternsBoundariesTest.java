/** A test for each sentence that names a boundary case: the promises 1 to 10, the patterns. */
public final class PatternsBoundariesTest extends Boundaries {
    public static void main(String[] args) {
        thePatterns();
        theKnownOfPatterns();
        finish("PatternsBoundariesTest");
    }

    private static void thePatterns() {
        newObject();
        draftNoSuchLetter();
        draftHas8Letters();
        draftIsEmptyAtFirst();
        enterEmptyDraft();
        enterSameLetters();
        enterThereAre20();
        enter40WereEntered();
        enterEmptiesTheDraft();
        setReplacementMayBeEmpty();
        setReplacementEmptiesTheDraft();
        setReplacementLengthBefore();
        setReplacementNoSuchPattern();
        takeOutHowManyAreLeft();
        takeOutNoSuchPattern();
        patternsFrom0To20();
    }

    private static void theKnownOfPatterns() {
        lengthFrom1To8();
        lengthNoSuchPattern();
        beginningsDifferent();
        beginningsNotEmpty();
        linkShorter();
        linkNotEmpty();
        linkNoSuchPattern();
        overlapShorterThanBoth();
        overlapMayBeTheSame();
        overlapNoSuchPattern();
    }

    // ---- Promises 1 to 6

    private static void newObject() {
        says("Promise 1", "Creates a matcher without patterns, with an empty stream.");
        Ahoarch x = new Ahoarch();
        due("0 0 0", () -> x.patterns() + " " + x.streamLength() + " " + x.beginnings());
        due("0 0 0", () -> x.depth() + " " + x.ending() + " " + x.occurrences());
        due("0 0 0", () -> x.told() + " " + x.covered() + " " + x.mostApart());
        due("0", () -> "" + x.certain());
        for (int rule = 0; rule < 3; rule++) {
            int r = rule;
            due("0 0", () -> x.chosen(r) + " " + x.replacedLength(r));
        }
        for (int number : new int[] {0, 1, 39}) {
            due(NO_ELEMENT, () -> x.length(number));
        }
        due(0, x::clear);
        // One object's patterns and stream are not another's.
        busy();
        due("0 0", () -> x.patterns() + " " + x.streamLength());
    }

    private static void draftNoSuchLetter() {
        says("Promise 2", "Throws IllegalArgumentException if it is no such letter");
        due(1, () -> new Ahoarch().draft('a'));
        due(1, () -> new Ahoarch().draft('z'));
        for (char letter : WRONG_LETTERS.toCharArray()) {
            refused(NO_ARGUMENT, Boundaries::busy, x -> x.draft(letter));
            refused(NO_ARGUMENT, Ahoarch::new, x -> x.draft(letter));
        }
    }

    private static void draftHas8Letters() {
        says("Promise 2", "Throws IllegalStateException if the draft has 8 letters");
        due(8, () -> drafted("abcdefg").draft('h'));
        refused(NO_STATE, () -> drafted(EIGHT), x -> x.draft('i'));
        refused(NO_STATE, () -> withDraft(with("a"), EIGHT), x -> x.draft('a'));
    }

    private static void draftIsEmptyAtFirst() {
        says("Promise 2", "Adds a letter to the draft, which is empty at first. "
            + "Returns the number of letters of the draft then.");
        Ahoarch x = new Ahoarch();
        for (int size = 1; size <= 8; size++) {
            due(size, () -> x.draft('q'));
        }
        due(NO_STATE, () -> x.draft('q'));
        x.enter();
        due(1, () -> x.draft('q'));
    }

    private static void enterEmptyDraft() {
        says("Promise 3", "Throws IllegalStateException if the draft is empty");
        refused(NO_STATE, Ahoarch::new, Ahoarch::enter);
        refused(NO_STATE, () -> with("a"), Ahoarch::enter);
        refused(NO_STATE, () -> withReplacement(with("a"), 0, "b"), Ahoarch::enter);
        due(0, () -> drafted("a").enter());
    }

    private static void enterSameLetters() {
        says("Promise 3", "Throws IllegalStateException if there is a pattern with the same letters");
        refused(NO_STATE, () -> withDraft(with("xab", "ab", "abx"), "ab"), Ahoarch::enter);
        Ahoarch x = withDraft(with("xab", "ab", "abx"), "ab");
        due(NO_STATE, x::enter);
        // It stays refused until the pattern is taken out.
        due(NO_STATE, x::enter);
        x.takeOut(1);
        due(3, x::enter);
        due(3, x::patterns);
    }

    private static void enterThereAre20() {
        says("Promise 3", "Throws IllegalStateException if there are 20 patterns");
        due(19, () -> withDraft(patternsOf(19), EIGHT).enter());
        refused(NO_STATE, () -> withDraft(patternsOf(20), EIGHT), Ahoarch::enter);
        refused(NO_STATE, () -> patternsOf(20), Ahoarch::enter);
        // 20 at a time, not 20 in all.
        due(30, () -> withDraft(entered(30, 19), EIGHT).enter());
        refused(NO_STATE, () -> withDraft(entered(30, 20), EIGHT), Ahoarch::enter);
    }

    private static void enter40WereEntered() {
        says("Promise 3", "Throws IllegalStateException if 40 were entered");
        due(39, () -> withDraft(entered(39, 19), EIGHT).enter());
        due(39, () -> withDraft(entered(39, 0), EIGHT).enter());
        refused(NO_STATE, () -> withDraft(entered(40, 20), EIGHT), Ahoarch::enter);
        refused(NO_STATE, () -> withDraft(entered(40, 19), EIGHT), Ahoarch::enter);
        refused(NO_STATE, () -> withDraft(entered(40, 1), EIGHT), Ahoarch::enter);
        refused(NO_STATE, () -> withDraft(entered(40, 0), EIGHT), Ahoarch::enter);
    }

    private static void enterEmptiesTheDraft() {
        says("Promise 3", "Enters the draft as a pattern, and empties it.");
        Ahoarch x = drafted(EIGHT);
        due(0, x::enter);
        due(NO_STATE, x::enter);
        due(0, () -> x.setReplacement(0));
        due(0, () -> x.setReplacement(0));
        due(1, () -> x.draft('b'));
        due(1, x::enter);
        due(1, () -> x.length(1));
        due(2, () -> x.feedPattern(0));
        due(1, () -> x.occurrence(1, 0));
    }

    private static void setReplacementMayBeEmpty() {
        says("Promise 4", "Makes the draft, which may be empty, the replacement of a pattern");
        Ahoarch x = with("ab");
        feed(x, "ab");
        due(0, () -> x.setReplacement(0));
        due("", () -> replaced(x, 0));
        draft(x, "q");
        due(0, () -> x.setReplacement(0));
        due("q", () -> replaced(x, 0));
        due(1, () -> x.setReplacement(0));
        due("", () -> replaced(x, 0));
        // Unlike a pattern, it may have the letters of a pattern.
        draft(x, "ab");
        due(0, () -> x.setReplacement(0));
        due("ab", () -> replaced(x, 0));
    }

    private static void setReplacementEmptiesTheDraft() {
        says("Promise 4", "Makes the draft, which may be empty, the replacement of a pattern, and empties it.");
        Ahoarch x = withDraft(with("a", "b"), EIGHT);
        due(0, () -> x.setReplacement(0));
        due(NO_STATE, x::enter);
        due(0, () -> x.setReplacement(1));
        due(8, () -> x.setReplacement(0));
        due(1, () -> x.draft('c'));
        due(2, x::enter);
        due(1, () -> x.length(2));
    }

    private static void setReplacementLengthBefore() {
        says("Promise 4", "Returns the length of the replacement before.");
        Ahoarch x = with("a", "b");
        int before = 0;
        for (int size : new int[] {8, 1, 0, 0, 7}) {
            int due = before;
            draft(x, EIGHT.substring(0, size));
            due(due, () -> x.setReplacement(1));
            before = size;
        }
        due(0, () -> x.setReplacement(0));
    }

    private static void setReplacementNoSuchPattern() {
        says("Promise 4", "Throws NoSuchElementException if there is no such pattern");
        due("3 0 1", () -> {
            Ahoarch x = busy();
            return x.setReplacement(0) + " " + x.setReplacement(2) + " " + x.setReplacement(3);
        });
        refusesNumbers(Ahoarch::setReplacement);
    }

    private static void takeOutHowManyAreLeft() {
        says("Promise 5", "Returns how many patterns are left.");
        Ahoarch x = patternsOf(20);
        for (int number = 0; number < 20; number++) {
            int n = number;
            due(19 - number, () -> x.takeOut(n));
        }
        due(NO_ELEMENT, () -> x.takeOut(19));
        due(0, x::patterns);
    }

    private static void takeOutNoSuchPattern() {
        says("Promise 5", "Throws NoSuchElementException if there is no such pattern");
        due("2 1 0", () -> {
            Ahoarch x = busy();
            return x.takeOut(3) + " " + x.takeOut(0) + " " + x.takeOut(2);
        });
        refusesNumbers(Ahoarch::takeOut);
        refused(NO_ELEMENT, () -> entered(40, 0), x -> x.takeOut(39));
        due(0, () -> entered(40, 1).takeOut(39));
    }

    private static void patternsFrom0To20() {
        says("Promise 6", "Returns how many patterns there are.");
        due(0, () -> new Ahoarch().patterns());
        due(0, () -> drafted("a").patterns());
        due(1, () -> with("a").patterns());
        due(20, () -> patternsOf(20).patterns());
        due(20, () -> entered(40, 20).patterns());
        due(1, () -> entered(40, 1).patterns());
        due(0, () -> entered(40, 0).patterns());
    }

    // ---- Promises 7 to 10

    private static void lengthFrom1To8() {
        says("Promise 7", "Returns the number of letters of a pattern.");
        Ahoarch x = with("a", EIGHT, "abcdefg", "zz");
        due("1 8 7 2", () -> x.length(0) + " " + x.length(1) + " " + x.length(2) + " " + x.length(3));
        due(2, () -> entered(40, 1).length(39));
    }

    private static void lengthNoSuchPattern() {
        says("Promise 7", "Throws NoSuchElementException if there is no such pattern");
        due("2 3 1", () -> {
            Ahoarch x = busy();
            return x.length(0) + " " + x.length(2) + " " + x.length(3);
        });
        refusesNumbers(Ahoarch::length);
    }

    private static void beginningsDifferent() {
        says("Promise 8", "Returns how many different strings that are not empty are beginnings of patterns.");
        due(0, () -> new Ahoarch().beginnings());
        due(8, () -> with(EIGHT).beginnings());
        due(8, () -> with(EIGHT, "a", "abcdefg", "abc").beginnings());
        due(8, () -> with("a", "abc", "abcdefg", EIGHT).beginnings());
        // Differing in the last letter alone, and in the first alone.
        due(9, () -> with(EIGHT, "abcdefgz").beginnings());
        due(16, () -> with(EIGHT, "zbcdefgh").beginnings());
        due(160, () -> {
            Ahoarch x = new Ahoarch();
            for (char first = 'a'; first < 'a' + 20; first++) {
                enter(x, first + "bcdefgh");
            }
            return x.beginnings();
        });
        due(0, () -> entered(40, 0).beginnings());
        due(21, () -> patternsOf(20).beginnings());
    }

    private static void beginningsNotEmpty() {
        says("Promise 8", "strings that are not empty");
        due(1, () -> with("a").beginnings());
        due(2, () -> with("a", "b").beginnings());
        Ahoarch x = with("a", "ab");
        due(2, x::beginnings);
        x.takeOut(0);
        due(2, x::beginnings);
        x.takeOut(1);
        due(0, x::beginnings);
        due(0, () -> drafted("ab").beginnings());
    }

    private static void linkShorter() {
        says("Terms", "The link of a string that is a beginning of a pattern and not empty is the longest shorter "
            + "string that is an end of it and a beginning of a pattern.");
        Ahoarch x = with("aaaaaaaa", "abcdefgh", "bcdefghi", "gh");
        due(7, () -> x.link(0));
        due(7, () -> x.link(1));
        x.takeOut(2);
        due(2, () -> x.link(1));
        x.takeOut(3);
        due(0, () -> x.link(1));
        // It needs no whole pattern, and may be the pattern's own beginning.
        due(2, () -> with("abxab").link(0));
        due(2, () -> with("xab", "abz").link(0));
    }

    private static void linkNotEmpty() {
        says("Promise 9", "Returns the number of letters of the link of a pattern.");
        due(0, () -> with("a").link(0));
        due(0, () -> with("a", "ab", "aa").link(0));
        due(1, () -> with("aa").link(0));
        due(0, () -> with("ab", "cd").link(0));
        due(1, () -> with("ab", "b").link(0));
        due(0, () -> with("ab", "cb").link(0));
        due(0, () -> withDraft(with("ab"), "b").link(0));
    }

    private static void linkNoSuchPattern() {
        says("Promise 9", "Throws NoSuchElementException if there is no such pattern");
        due("1 0 0", () -> {
            Ahoarch x = busy();
            return x.link(0) + " " + x.link(2) + " " + x.link(3);
        });
        refusesNumbers(Ahoarch::link);
    }

    private static void overlapShorterThanBoth() {
        says("Promise 10", "the length of the longest string, shorter than both, that is an end of the first and "
            + "a beginning of the second one");
        due(7, () -> with("abcdefgh", "bcdefghi").overlap(0, 1));
        due(0, () -> with("abcdefgh", "bcdefghi").overlap(1, 0));
        // A whole pattern is not shorter than both.
        due(0, () -> with("xab", "ab").overlap(0, 1));
        due(0, () -> with("ab", "abx").overlap(0, 1));
        due(1, () -> with("xbb", "bb").overlap(0, 1));
        due(1, () -> with("bb", "bbx").overlap(0, 1));
        due(0, () -> with("a", "ab").overlap(0, 1));
        due(0, () -> with("ba", "a").overlap(0, 1));
        // Of the two alone: another pattern's beginning does not count.
        due(0, () -> with("ab", "cd", "bc").overlap(0, 1));
        due(1, () -> with("ab", "bc").overlap(0, 1));
    }

    private static void overlapMayBeTheSame() {
        says("Promise 10", "the number of the second pattern, which may be the same");
        due(7, () -> with("aaaaaaaa").overlap(0, 0));
        due(0, () -> with("a").overlap(0, 0));
        due(0, () -> with("ab").overlap(0, 0));
        due(2, () -> with("abcab").overlap(0, 0));
    }

    private static void overlapNoSuchPattern() {
        says("Promise 10", "Throws NoSuchElementException if there is no such pattern");
        due("0 1 0", () -> {
            Ahoarch x = with("ab", "q", "abc", "bca");
            x.takeOut(1);
            return x.overlap(0, 0) + " " + x.overlap(3, 0) + " " + x.overlap(2, 0);
        });
        refusesNumbers((x, number) -> x.overlap(number, 0));
        refusesNumbers((x, number) -> x.overlap(3, number));
        refusesNumbers((x, number) -> x.overlap(number, number));
    }
}
