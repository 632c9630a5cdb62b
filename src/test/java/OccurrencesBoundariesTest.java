/** A test for each sentence that names a boundary case: the promises 18 to 29, occurrences and replacing. */
public final class OccurrencesBoundariesTest extends Boundaries {
    public static void main(String[] args) {
        theOccurrences();
        theChosen();
        theReplaced();
        finish("OccurrencesBoundariesTest");
    }

    private static void theOccurrences() {
        occurrencesNoneAndMost();
        occurrencesOfNoneAndMost();
        occurrencesOfNoSuchPattern();
        occurrenceFirstAndLast();
        occurrenceNoSuchPattern();
        occurrenceNoSuchOccurrence();
        toldSinceEmptiedOrCreated();
        toldIsTheSumOfWhatTheyReturned();
        coveredNoneAndAll();
        coveredOnceEach();
        mostApartNoLetterInCommon();
        mostApartNoneAndMost();
    }

    private static void theChosen() {
        chosenRuleOutOfRange();
        chosenNoneAndMost();
        chosenPatternRuleOutOfRange();
        chosenPatternNoSuchOccurrence();
        chosenPlaceRuleOutOfRange();
        chosenPlaceNoSuchOccurrence();
    }

    private static void theReplaced() {
        replacedLengthRuleOutOfRange();
        replacedLengthNoneAndMost();
        replacedRuleOutOfRange();
        replacedNoSuchLetter();
        replacedEachOccurrence();
        certainRestIsNotEmpty();
        certainPatternThatIsLonger();
        certainBehindTheLongest();
        certainToTheNextPlace();
        certainStopsAtTheEnd();
        certainByTheRule0();
        certainOfAnEmptyStream();
    }

    // ---- Promises 18 to 23

    private static void occurrencesNoneAndMost() {
        says("Promise 18", "Returns how many occurrences there are.");
        due(0, () -> new Ahoarch().occurrences());
        due(0, () -> with("a").occurrences());
        due(0, () -> fed(new Ahoarch(), "a").occurrences());
        Ahoarch x = with("a", "aa", "aaa", "aaaa", "aaaaa", "aaaaaa", "aaaaaaa", "aaaaaaaa");
        feed(x, "a".repeat(200));
        due(8 * 200 - 28, x::occurrences);
        // At the first and at the last place.
        due(2, () -> fed(with("ab"), "abcab").occurrences());
    }

    private static void occurrencesOfNoneAndMost() {
        says("Promise 19", "Returns how many occurrences of a pattern there are.");
        due(0, () -> with("a").occurrencesOf(0));
        due(0, () -> fed(with("aa"), "a").occurrencesOf(0));
        due(1, () -> fed(with("aa"), "aa").occurrencesOf(0));
        due(2, () -> fed(with("aa"), "aaa").occurrencesOf(0));
        Ahoarch x = with("a", "aaaaaaaa");
        feed(x, "a".repeat(200));
        due(200, () -> x.occurrencesOf(0));
        due(193, () -> x.occurrencesOf(1));
    }

    private static void occurrencesOfNoSuchPattern() {
        says("Promise 19", "Throws NoSuchElementException if there is no such pattern");
        due("2 1 3", () -> {
            Ahoarch x = busy();
            return x.occurrencesOf(0) + " " + x.occurrencesOf(2) + " " + x.occurrencesOf(3);
        });
        refusesNumbers(Ahoarch::occurrencesOf);
    }

    private static void occurrenceFirstAndLast() {
        says("Promise 20", "Returns the place of an occurrence of a pattern. index: 0 for the first one");
        Ahoarch x = with("a", "aaaaaaaa");
        feed(x, "a".repeat(200));
        due("0 1 199", () -> x.occurrence(0, 0) + " " + x.occurrence(0, 1) + " " + x.occurrence(0, 199));
        due("0 1 192", () -> x.occurrence(1, 0) + " " + x.occurrence(1, 1) + " " + x.occurrence(1, 192));
        due(NO_INDEX, () -> x.occurrence(0, 200));
        due(NO_INDEX, () -> x.occurrence(1, 193));
    }

    private static void occurrenceNoSuchPattern() {
        says("Promise 20", "Throws NoSuchElementException if there is no such pattern");
        refusesNumbers((x, number) -> x.occurrence(number, 0));
        refusesNumbers((x, number) -> x.occurrence(number, -1));
        refusesNumbers((x, number) -> x.occurrence(number, MOST));
    }

    private static void occurrenceNoSuchOccurrence() {
        says("Promise 20", "Throws IndexOutOfBoundsException if there is no such occurrence");
        // busy() has pattern 3 at the places 2, 4 and 6.
        due("2 4 6", () -> {
            Ahoarch x = busy();
            return x.occurrence(3, 0) + " " + x.occurrence(3, 1) + " " + x.occurrence(3, 2);
        });
        for (int index : new int[] {-1, 3, 200, LEAST, MOST}) {
            refused(NO_INDEX, Boundaries::busy, x -> x.occurrence(3, index));
        }
        refused(NO_INDEX, () -> with("a"), x -> x.occurrence(0, 0));
        refused(NO_INDEX, () -> fed(with("a"), "b"), x -> x.occurrence(0, 0));
    }

    private static void toldSinceEmptiedOrCreated() {
        says("Promise 21", "Returns how many occurrences were told by feed and feedPattern since the stream was "
            + "emptied or the matcher created");
        due(0, () -> new Ahoarch().told());
        Ahoarch x = with("a", "aa");
        due(0, x::told);
        feed(x, "aa");
        due(3, x::told);
        x.clear();
        due(0, x::told);
        feed(x, "a");
        due(1, x::told);
        x.clear();
        x.clear();
        due(0, x::told);
    }

    private static void toldIsTheSumOfWhatTheyReturned() {
        says("Promise 21", "the sum of what they returned");
        Ahoarch x = with("a", "aa", "b");
        feed(x, "aab");
        due(2, () -> x.feedPattern(0) + 1);
        due(5, x::told);
        // Patterns that come and go later change nothing of what was told.
        enter(x, "aab");
        x.takeOut(0);
        due(5, x::told);
        due(3, x::occurrences);
        due(1, () -> x.feed('a'));
        due(6, x::told);
        // A refused call told nothing.
        due(NO_ARGUMENT, () -> x.feed('A'));
        due(NO_ELEMENT, () -> x.feedPattern(0));
        due(6, x::told);
        Ahoarch full = with("a", "aa", "aaa", "aaaa", "aaaaa", "aaaaaa", "aaaaaaa", "aaaaaaaa");
        for (int times = 0; times < 25; times++) {
            full.feedPattern(7);
        }
        due(8 * 200 - 28, full::told);
        due(NO_STATE, () -> full.feedPattern(0));
        due(NO_STATE, () -> full.feed('a'));
        due(8 * 200 - 28, full::told);
    }

    private static void coveredNoneAndAll() {
        says("Promise 22", "Returns how many letters of the stream belong to an occurrence.");
        due(0, () -> new Ahoarch().covered());
        due(0, () -> with("a").covered());
        due(0, () -> fed(with("ab"), "aabb".substring(2)).covered());
        due(0, () -> fed(new Ahoarch(), "a").covered());
        Ahoarch x = with("aaaaaaaa");
        feed(x, "a".repeat(200));
        due(200, x::covered);
        // The first and the last letter.
        due(2, () -> fed(with("a"), "a" + "b".repeat(198) + "a").covered());
        due(7, () -> fed(with("aaaaaaa"), "aaaaaaa").covered());
        due(0, () -> fed(with("aaaaaaaa"), "aaaaaaa").covered());
    }

    private static void coveredOnceEach() {
        says("Promise 22", "how many letters of the stream belong to an occurrence");
        // A letter of several occurrences is one letter; one between two touching ones is none.
        due(3, () -> fed(with("ab", "bc", "b"), "abc").covered());
        due(4, () -> fed(with("ab", "cd"), "abcd").covered());
        due(4, () -> fed(with("ab", "cd"), "abxcd").covered());
        due(8, () -> fed(with(EIGHT, "c", "de"), EIGHT + "b").covered());
    }

    private static void mostApartNoLetterInCommon() {
        says("Promise 23", "Returns the greatest number of occurrences that can be chosen so that no two have a "
            + "letter of the stream in common.");
        // Touching they have none in common, sharing one letter they have.
        due(2, () -> fed(with("ab", "cd"), "abcd").mostApart());
        due(1, () -> fed(with("ab", "bc"), "abc").mostApart());
        due(2, () -> fed(with("aba"), "abaaba").mostApart());
        due(1, () -> fed(with("aba"), "ababa").mostApart());
        // More than the rules 0 and 1 choose.
        Ahoarch x = with(EIGHT, "ab", "cd", "ef", "gh");
        feed(x, EIGHT);
        due("1 1 4", () -> x.chosen(0) + " " + x.chosen(1) + " " + x.mostApart());
        due(2, () -> fed(with("abcd", "bc", "def"), "abcdef").mostApart());
    }

    private static void mostApartNoneAndMost() {
        says("Promise 23", "the greatest number of occurrences");
        due(0, () -> new Ahoarch().mostApart());
        due(0, () -> with("a").mostApart());
        due(0, () -> fed(new Ahoarch(), "a").mostApart());
        due(0, () -> fed(with("b"), "a").mostApart());
        Ahoarch x = with("aaaaaaaa", "aa", "a");
        feed(x, "a".repeat(200));
        due(200, x::mostApart);
        x.takeOut(2);
        due(100, x::mostApart);
        x.takeOut(1);
        due(25, x::mostApart);
    }

    // ---- Promises 24 to 26

    private static void chosenRuleOutOfRange() {
        says("Promise 24", "Throws IllegalArgumentException if rule is out of range");
        due("3 3 3", () -> {
            Ahoarch x = busy();
            return x.chosen(0) + " " + x.chosen(1) + " " + x.chosen(2);
        });
        refusesRules(Ahoarch::chosen);
    }

    private static void chosenNoneAndMost() {
        says("Promise 24", "Returns how many occurrences are chosen by a rule.");
        Ahoarch most = with("a");
        feed(most, "a".repeat(200));
        for (int rule = 0; rule < 3; rule++) {
            int r = rule;
            due(0, () -> new Ahoarch().chosen(r));
            due(0, () -> with("a").chosen(r));
            due(0, () -> fed(new Ahoarch(), "a").chosen(r));
            due(0, () -> fed(with("b"), "a").chosen(r));
            due(200, () -> most.chosen(r));
        }
    }

    private static void chosenPatternRuleOutOfRange() {
        says("Promise 25", "Throws IllegalArgumentException if rule is out of range");
        due("2 0 0", () -> {
            Ahoarch x = busy();
            return x.chosenPattern(0, 0) + " " + x.chosenPattern(1, 0) + " " + x.chosenPattern(2, 0);
        });
        refusesRules((x, rule) -> x.chosenPattern(rule, 0));
    }

    private static void chosenPatternNoSuchOccurrence() {
        says("Promise 25", "Throws IndexOutOfBoundsException if there is no such occurrence");
        due("2 3 0", () -> {
            Ahoarch x = busy();
            return x.chosenPattern(0, 0) + " " + x.chosenPattern(0, 1) + " " + x.chosenPattern(0, 2);
        });
        refusesChosen(Ahoarch::chosenPattern);
        Ahoarch most = with("b", "a");
        feed(most, "a".repeat(199) + "b");
        for (int rule = 0; rule < 3; rule++) {
            int r = rule;
            due(1, () -> most.chosenPattern(r, 198));
            due(0, () -> most.chosenPattern(r, 199));
            due(NO_INDEX, () -> most.chosenPattern(r, 200));
        }
    }

    private static void chosenPlaceRuleOutOfRange() {
        says("Promise 26", "Throws IllegalArgumentException if rule is out of range");
        due("1 1 1", () -> {
            Ahoarch x = busy();
            return x.chosenPlace(0, 0) + " " + x.chosenPlace(1, 0) + " " + x.chosenPlace(2, 0);
        });
        refusesRules((x, rule) -> x.chosenPlace(rule, 0));
    }

    private static void chosenPlaceNoSuchOccurrence() {
        says("Promise 26", "Throws IndexOutOfBoundsException if there is no such occurrence");
        due("1 4 5", () -> {
            Ahoarch x = busy();
            return x.chosenPlace(2, 0) + " " + x.chosenPlace(2, 1) + " " + x.chosenPlace(2, 2);
        });
        refusesChosen(Ahoarch::chosenPlace);
        Ahoarch most = with("a");
        feed(most, "a".repeat(200));
        for (int rule = 0; rule < 3; rule++) {
            int r = rule;
            due(0, () -> most.chosenPlace(r, 0));
            due(199, () -> most.chosenPlace(r, 199));
            due(NO_INDEX, () -> most.chosenPlace(r, 200));
        }
    }

    // ---- Promises 27 to 29

    private static void replacedLengthRuleOutOfRange() {
        says("Promise 27", "Throws IllegalArgumentException if rule is out of range");
        due("5 9 9", () -> {
            Ahoarch x = busy();
            return x.replacedLength(0) + " " + x.replacedLength(1) + " " + x.replacedLength(2);
        });
        refusesRules(Ahoarch::replacedLength);
    }

    private static void replacedLengthNoneAndMost() {
        says("Promise 27", "Returns the length of the stream in which each occurrence chosen by a rule is replaced "
            + "by the replacement of its pattern.");
        Ahoarch most = withReplacement(with("a"), 0, EIGHT);
        feed(most, "a".repeat(200));
        Ahoarch nothing = with("a");
        feed(nothing, "a".repeat(200));
        Ahoarch same = with("b");
        feed(same, "a".repeat(200));
        for (int rule = 0; rule < 3; rule++) {
            int r = rule;
            due(0, () -> new Ahoarch().replacedLength(r));
            due(0, () -> withReplacement(with("a"), 0, EIGHT).replacedLength(r));
            due(1600, () -> most.replacedLength(r));
            due(0, () -> nothing.replacedLength(r));
            due(200, () -> same.replacedLength(r));
        }
    }

    private static void replacedRuleOutOfRange() {
        says("Promise 28", "Throws IllegalArgumentException if rule is out of range");
        due("zzz", () -> {
            Ahoarch x = busy();
            return "" + x.replaced(0, 0) + x.replaced(1, 0) + x.replaced(2, 0);
        });
        refusesRules((x, rule) -> x.replaced(rule, 0));
    }

    private static void replacedNoSuchLetter() {
        says("Promise 28", "Throws IndexOutOfBoundsException if there is no such letter");
        due("znklm", () -> replaced(busy(), 0));
        due("zklmcnklm", () -> replaced(busy(), 1));
        due("zklmcnklm", () -> replaced(busy(), 2));
        for (int rule = 0; rule < 3; rule++) {
            int r = rule;
            int letters = rule == 0 ? 5 : 9;
            for (int index : new int[] {-1, letters, 200, 1600, LEAST, MOST}) {
                refused(NO_INDEX, Boundaries::busy, x -> x.replaced(r, index));
            }
            refused(NO_INDEX, Ahoarch::new, x -> x.replaced(r, 0));
            // The stream is not empty, what is left of it is.
            refused(NO_INDEX, () -> fed(with("a"), "aa"), x -> x.replaced(r, 0));
        }
        Ahoarch most = withReplacement(with("a"), 0, EIGHT);
        feed(most, "a".repeat(200));
        due("ah", () -> "" + most.replaced(1, 0) + most.replaced(1, 1599));
        due(NO_INDEX, () -> most.replaced(1, 1600));
        Ahoarch same = fed(with("b"), "x" + "a".repeat(198) + "z");
        due("xz", () -> "" + same.replaced(2, 0) + same.replaced(2, 199));
        due(NO_INDEX, () -> same.replaced(2, 200));
    }

    private static void replacedEachOccurrence() {
        says("Promise 28", "the stream in which each occurrence chosen by a rule is replaced by the replacement of "
            + "its pattern");
        // At the first place, at the last, touching, and with what the replacements alone would make.
        Ahoarch x = withReplacement(with("ab", "c"), 0, "ccab");
        feed(x, "abxabcab");
        for (int rule = 0; rule < 3; rule++) {
            int r = rule;
            due("ccabxccabccab", () -> replaced(x, r));
        }
        // The replacement that there is now, not the one at the feeding.
        replaceBy(x, 1, "q");
        replaceBy(x, 0, "");
        due("xq", () -> replaced(x, 0));
    }

    private static void certainRestIsNotEmpty() {
        says("Promise 29", "if the rest of the stream from a place on is not empty, and is the beginning of a "
            + "pattern that is longer, one stops there");
        Ahoarch x = withReplacement(with("aaaaaaaa"), 0, "xyz");
        feed(x, "b");
        due(1, x::certain);
        for (int letters = 1; letters < 8; letters++) {
            feed(x, "a");
            due(1, x::certain);
        }
        // Behind the whole pattern the rest is empty.
        feed(x, "a");
        due(4, x::certain);
        feed(x, "aaa");
        due(4, x::certain);
        due(0, () -> fed(with("ab"), "a").certain());
        due(0, () -> fed(with(EIGHT), "abcdefg").certain());
        // The rest is the whole of it, not a part.
        due(3, () -> fed(with("abx"), "abc").certain());
    }

    private static void certainPatternThatIsLonger() {
        says("Promise 29", "is the beginning of a pattern that is longer");
        Ahoarch x = withReplacement(with("ab"), 0, "xyz");
        feed(x, "ab");
        due(3, x::certain);
        enter(x, "abc");
        due(0, x::certain);
        x.takeOut(1);
        due(3, x::certain);
        enter(x, "xab");
        due(3, x::certain);
        due(8, () -> fed(withReplacement(with(EIGHT), 0, "klmnopqr"), EIGHT).certain());
    }

    private static void certainBehindTheLongest() {
        says("Promise 29", "otherwise, if there are occurrences at this place, one goes on behind the longest of them");
        Ahoarch x = withReplacement(with("a", "abc", "ab", "bcd", "cx"), 1, "kl");
        feed(x, "abc");
        // "bc" and "c" may still become patterns, but lie within the longest.
        due(2, x::certain);
        feed(x, "d");
        due(3, x::certain);
        feed(x, "c");
        due(3, x::certain);
        x.takeOut(1);
        due(2, x::certain);
    }

    private static void certainToTheNextPlace() {
        says("Promise 29", "otherwise to the next place");
        due(3, () -> fed(with("abc"), "xyz").certain());
        due(2, () -> fed(with("abc"), "xyab").certain());
        due(1, () -> fed(with("abc"), "aab").certain());
        due(2, () -> fed(with("bc"), "abb").certain());
    }

    private static void certainStopsAtTheEnd() {
        says("Promise 29", "One also stops at the end of the stream.");
        Ahoarch most = withReplacement(with("a"), 0, EIGHT);
        feed(most, "a".repeat(200));
        due(1600, most::certain);
        Ahoarch same = with("b");
        feed(same, "a".repeat(200));
        due(200, same::certain);
        // At the last place of a full stream a rest may still be a beginning.
        due(199, () -> fed(with("bc"), "a".repeat(199) + "b").certain());
        due(2, () -> fed(new Ahoarch(), "ab").certain());
    }

    private static void certainByTheRule0() {
        says("Promise 29", "Returns how many first letters of the replaced stream, by the rule 0, are certain, "
            + "whatever letters still come.");
        Ahoarch x = withReplacement(withReplacement(with("a", "abc"), 0, "pppp"), 1, "q");
        feed(x, "abcz");
        due("2 6 6", () -> x.replacedLength(0) + " " + (x.replacedLength(1) - 1) + " " + (x.replacedLength(2) - 1));
        due(2, x::certain);
        // What is certain stays, whatever comes.
        Ahoarch y = withReplacement(withReplacement(with("ab", "abcd"), 0, "kl"), 1, "mno");
        feed(y, "xababc");
        due(3, y::certain);
        due("xkl", () -> replaced(y, 0).substring(0, 3));
        feed(y, "d");
        due("xklmno", () -> replaced(y, 0));
        due(6, y::certain);
    }

    private static void certainOfAnEmptyStream() {
        says("Promise 29", "Returns how many letters of the replaced stream come from what is before the place at "
            + "which one stops.");
        due(0, () -> new Ahoarch().certain());
        due(0, () -> withReplacement(with("a"), 0, EIGHT).certain());
        Ahoarch gone = with("a");
        feed(gone, "aa");
        due(0, gone::certain);
        feed(gone, "b");
        due(1, gone::certain);
    }
}
