/** A test for each sentence that names a boundary case: the promises 11 to 17, the stream. */
public final class StreamBoundariesTest extends Boundaries {
    public static void main(String[] args) {
        theStream();
        theState();
        finish("StreamBoundariesTest");
    }

    private static void theStream() {
        feedNoSuchLetter();
        feedStreamHas200();
        feedHowManyEnd();
        feedPatternNoSuchPattern();
        feedPatternMoreThan200();
        feedPatternHowManyEnd();
        clearHowManyItHad();
        clearEmptiesTheStream();
        clearLeavesTheRest();
        streamLengthFrom0To200();
    }

    private static void theState() {
        depthOfNothing();
        depthWholePatternAndEmptyString();
        depthAnEndOfTheStream();
        endingZeroIfEmpty();
        endingUpToEight();
        endingPatternLongestFirst();
        endingPatternNoSuchOccurrence();
    }

    // ---- Promises 11 to 14

    private static void feedNoSuchLetter() {
        says("Promise 11", "Throws IllegalArgumentException if it is no such letter");
        Ahoarch x = new Ahoarch();
        due(0, () -> x.feed('a'));
        due(0, () -> x.feed('z'));
        due(2, x::streamLength);
        for (char letter : WRONG_LETTERS.toCharArray()) {
            refused(NO_ARGUMENT, Boundaries::busy, y -> y.feed(letter));
            refused(NO_ARGUMENT, Ahoarch::new, y -> y.feed(letter));
        }
    }

    private static void feedStreamHas200() {
        says("Promise 11", "Throws IllegalStateException if the stream has 200 letters");
        Ahoarch x = streamOf(199);
        due(2, () -> x.feed('h'));
        due(200, x::streamLength);
        refused(NO_STATE, Boundaries::fullStream, y -> y.feed('h'));
        refused(NO_STATE, Boundaries::fullStream, y -> y.feed('a'));
        Ahoarch again = fullStream();
        again.clear();
        due(1, () -> again.feed('a'));
        due(1, again::streamLength);
    }

    private static void feedHowManyEnd() {
        says("Promise 11", "Returns how many occurrences end with this letter.");
        due(0, () -> new Ahoarch().feed('a'));
        Ahoarch x = with("a", "aa", "aaa", "aaaa", "aaaaa", "aaaaaa", "aaaaaaa", "aaaaaaaa");
        for (int letters = 1; letters <= 10; letters++) {
            due(Math.min(letters, 8), () -> x.feed('a'));
        }
        due(0, () -> x.feed('b'));
        due(1, () -> x.feed('a'));
    }

    private static void feedPatternNoSuchPattern() {
        says("Promise 12", "Throws NoSuchElementException if there is no such pattern");
        due("1 3 1", () -> {
            Ahoarch x = busy();
            x.clear();
            return (x.feedPattern(0) - 1) + " " + x.feedPattern(2) + " " + x.feedPattern(3);
        });
        refusesNumbers(Ahoarch::feedPattern);
    }

    private static void feedPatternMoreThan200() {
        says("Promise 12", "Throws IllegalStateException if the stream would have more than 200 letters");
        // Pattern 0 has 8 letters, pattern 1 one.
        due(3, () -> streamOf(192).feedPattern(0));
        due(200, () -> {
            Ahoarch x = streamOf(192);
            x.feedPattern(0);
            return x.streamLength();
        });
        for (int size = 193; size <= 200; size++) {
            int letters = size;
            refused(NO_STATE, () -> streamOf(letters), x -> x.feedPattern(0));
        }
        due(1, () -> streamOf(199).feedPattern(1));
        refused(NO_STATE, () -> streamOf(200), x -> x.feedPattern(1));
    }

    private static void feedPatternHowManyEnd() {
        says("Promise 12", "Returns how many occurrences end with these letters.");
        // One that begins before these letters counts, one that ends before them does not.
        Ahoarch x = with("bc", "ab", "xb", "c", "a");
        feed(x, "a");
        due(3, () -> x.feedPattern(0));
        due(1, () -> x.feedPattern(4));
        due(2, () -> x.feedPattern(1));
        Ahoarch y = with("aaaaaaaa", "a", "aaaa");
        due(8 + 5 + 1, () -> y.feedPattern(0));
        due(8 + 8 + 8, () -> y.feedPattern(0));
    }

    private static void clearHowManyItHad() {
        says("Promise 13", "Returns how many letters it had.");
        due(0, () -> new Ahoarch().clear());
        due(0, () -> with("ab").clear());
        due(1, () -> streamOf(1).clear());
        Ahoarch x = fullStream();
        due(200, x::clear);
        due(0, x::clear);
    }

    private static void clearEmptiesTheStream() {
        says("Promise 13", "Empties the stream.");
        Ahoarch x = fullStream();
        x.clear();
        due("0 0 0 0", () -> x.streamLength() + " " + x.depth() + " " + x.ending() + " " + x.occurrences());
        due("0 0 0 0", () -> x.told() + " " + x.covered() + " " + x.mostApart() + " " + x.certain());
        dueChosen(x, "", "", "");
        for (int rule = 0; rule < 3; rule++) {
            int r = rule;
            due(0, () -> x.replacedLength(r));
        }
        due(NO_INDEX, () -> x.endingPattern(0));
        due(NO_INDEX, () -> x.occurrence(1, 0));
        // No occurrence is made of letters from before and after.
        Ahoarch y = with("ab");
        feed(y, "a");
        y.clear();
        due(0, () -> y.feed('b'));
        due(0, y::occurrences);
        due(0, y::depth);
        // It can be filled again.
        for (int times = 0; times < 25; times++) {
            x.feedPattern(0);
        }
        due(200, x::streamLength);
    }

    private static void clearLeavesTheRest() {
        says("Promise 13", "Empties the stream.");
        // Nothing is said of the patterns, their replacements and the draft.
        Ahoarch x = busy();
        x.clear();
        due(3, x::patterns);
        due(3, () -> x.draft('r'));
        due(4, x::enter);
        due(3, () -> x.length(4));
        due(3, () -> x.setReplacement(0));
        due(0, () -> x.setReplacement(2));
        due(1, () -> x.setReplacement(3));
    }

    private static void streamLengthFrom0To200() {
        says("Promise 14", "Returns the number of letters of the stream.");
        due(0, () -> new Ahoarch().streamLength());
        for (int size : new int[] {1, 8, 199, 200}) {
            due(size, () -> streamOf(size).streamLength());
        }
    }

    // ---- Promises 15 to 17

    private static void depthOfNothing() {
        says("Promise 15", "Returns the depth of the state.");
        due(0, () -> new Ahoarch().depth());
        due(0, () -> with("a").depth());
        due(0, () -> drafted("a").depth());
        due(0, () -> fed(new Ahoarch(), "abc").depth());
        Ahoarch x = fed(with("ab"), "ab");
        due(2, x::depth);
        x.clear();
        due(0, x::depth);
        // A full stream: the last letters count, as many as the longest pattern has.
        due(8, () -> fullStream().depth());
        due(7, () -> streamOf(199).depth());
    }

    private static void depthWholePatternAndEmptyString() {
        says("Terms", "the whole pattern and the empty string count, too. Its depth is the number of its letters.");
        Ahoarch x = with("a", EIGHT);
        feed(x, "z");
        due(0, x::depth);
        for (int letters = 1; letters <= 8; letters++) {
            feed(x, EIGHT.substring(letters - 1, letters));
            due(letters, x::depth);
        }
        feed(x, "h");
        due(0, x::depth);
    }

    private static void depthAnEndOfTheStream() {
        says("Terms", "The state of the matcher is the longest string of letters that is an end of the stream and "
            + "a beginning of a pattern");
        Ahoarch x = with("abab", "babz");
        feed(x, "ab");
        due(2, x::depth);
        feed(x, "ab");
        due(4, x::depth);
        feed(x, "z");
        due(4, x::depth);
        feed(x, "a");
        due(1, x::depth);
        feed(x, "baba");
        due(3, x::depth);
        x.takeOut(0);
        due(2, x::depth);
        enter(x, "babax");
        due(4, x::depth);
    }

    private static void endingZeroIfEmpty() {
        says("Promise 16", "Returns how many occurrences end with the last letter of the stream; 0 if it is empty.");
        due(0, () -> new Ahoarch().ending());
        due(0, () -> with("a").ending());
        Ahoarch x = with("a");
        feed(x, "a");
        due(1, x::ending);
        x.clear();
        due(0, x::ending);
    }

    private static void endingUpToEight() {
        says("Promise 16", "Returns how many occurrences end with the last letter of the stream");
        Ahoarch x = with("a", "aa", "aaa", "aaaa", "aaaaa", "aaaaaa", "aaaaaaa", "aaaaaaaa");
        for (int letters = 1; letters <= 9; letters++) {
            feed(x, "a");
            due(Math.min(letters, 8), x::ending);
        }
        feed(x, "b");
        due(0, x::ending);
        due(2, () -> fullStream().ending());
    }

    private static void endingPatternLongestFirst() {
        says("Promise 17", "0 for the longest one, 1 for the next shorter one, and so on");
        Ahoarch x = with("aaaa", "a", "aaaaaaaa", "aa");
        feed(x, "aaaaaaaa");
        due("2 0 3 1", () -> x.endingPattern(0) + " " + x.endingPattern(1) + " " + x.endingPattern(2) + " "
            + x.endingPattern(3));
        due(NO_INDEX, () -> x.endingPattern(4));
    }

    private static void endingPatternNoSuchOccurrence() {
        says("Promise 17", "Throws IndexOutOfBoundsException if there is no such occurrence");
        due("0 3", () -> {
            Ahoarch x = busy();
            return x.endingPattern(0) + " " + x.endingPattern(1);
        });
        for (int index : new int[] {-1, 2, 8, 20, LEAST, MOST}) {
            refused(NO_INDEX, Boundaries::busy, x -> x.endingPattern(index));
        }
        refused(NO_INDEX, Ahoarch::new, x -> x.endingPattern(0));
        refused(NO_INDEX, () -> with("a"), x -> x.endingPattern(0));
        // No pattern; and none that ends with the last letter.
        refused(NO_INDEX, () -> fed(new Ahoarch(), "a"), x -> x.endingPattern(0));
        refused(NO_INDEX, () -> fed(with("a"), "ab"), x -> x.endingPattern(0));
        due(7, () -> fed(with("a", "aa", "aaa", "aaaa", "aaaaa", "aaaaaa", "aaaaaaa", "aaaaaaaa"), "aaaaaaaa")
            .endingPattern(0));
        due(0, () -> fed(with("a", "aa", "aaa", "aaaa", "aaaaa", "aaaaaa", "aaaaaaa", "aaaaaaaa"), "aaaaaaaa")
            .endingPattern(7));
    }
}
