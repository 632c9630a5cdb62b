import java.util.NoSuchElementException;

/** A matcher of many patterns in a stream of letters. */
public final class Ahoarch {
    private static final int WORD_LIMIT = 8;
    private static final int PRESENT_LIMIT = 20;
    private static final int ENTERED_LIMIT = 40;
    private static final int STREAM_LIMIT = 200;

    private static final int LEFTMOST_LONGEST = 0;
    private static final int EARLIEST_END = 2;

    private static final int LETTER_BITS = 5;
    private static final long LETTER_MASK = 31L;

    private final Book book;
    private final Stream stream;
    private final Choice choice;
    private final Text text;
    private Word drafted;
    private int toldSoFar;

    public Ahoarch() {
        book = new Book();
        stream = new Stream();
        choice = new Choice();
        text = new Text();
        drafted = new Word(0L, 0);
        toldSoFar = 0;
    }

    // ---- patterns

    public int draft(char letter) throws IllegalArgumentException, IllegalStateException {
        needLetter(letter);
        if (drafted.size >= WORD_LIMIT) {
            throw new IllegalStateException("the draft has 8 letters");
        }
        drafted = drafted.with(letter);
        return drafted.size;
    }

    public int enter() throws IllegalStateException {
        if (drafted.size == 0) {
            throw new IllegalStateException("the draft is empty");
        }
        if (book.has(drafted)) {
            throw new IllegalStateException("there is a pattern with the same letters");
        }
        if (book.isFull()) {
            throw new IllegalStateException("there are 20 patterns, or 40 were entered");
        }
        int number = book.add(drafted);
        drafted = new Word(0L, 0);
        return number;
    }

    public int setReplacement(int pattern) throws NoSuchElementException {
        Pattern changed = need(pattern);
        int before = changed.replacement.size;
        changed.replacement = drafted;
        drafted = new Word(0L, 0);
        return before;
    }

    public int takeOut(int pattern) throws NoSuchElementException {
        book.remove(need(pattern));
        return book.present;
    }

    public int patterns() {
        return book.present;
    }

    public int length(int pattern) throws NoSuchElementException {
        return need(pattern).letters.size;
    }

    public int beginnings() {
        return book.countBeginnings();
    }

    public int link(int pattern) throws NoSuchElementException {
        Word letters = need(pattern).letters;
        return book.longestEnd(letters.code, letters.size - 1);
    }

    public int overlap(int first, int second) throws NoSuchElementException {
        Word before = need(first).letters;
        Word after = need(second).letters;
        for (int count = Math.min(before.size, after.size) - 1; count > 0; count--) {
            if (after.beginsWith(tail(before.code, count), count)) {
                return count;
            }
        }
        return 0;
    }

    // ---- the stream

    public int feed(char letter) throws IllegalArgumentException, IllegalStateException {
        needLetter(letter);
        needRoom(1);
        return take(letter);
    }

    public int feedPattern(int pattern) throws NoSuchElementException, IllegalStateException {
        Word letters = need(pattern).letters;
        needRoom(letters.size);
        int ended = 0;
        for (int index = 0; index < letters.size; index++) {
            ended += take(letters.letterAt(index));
        }
        return ended;
    }

    public int clear() {
        int before = stream.size;
        stream.size = 0;
        toldSoFar = 0;
        return before;
    }

    public int streamLength() {
        return stream.size;
    }

    public int depth() {
        return book.longestEnd(stream.lastsBefore(stream.size), Math.min(stream.size, WORD_LIMIT));
    }

    public int ending() {
        return book.countBefore(stream, stream.size);
    }

    public int endingPattern(int index) throws IndexOutOfBoundsException {
        Pattern found = book.endingAt(stream, index);
        if (found == null) {
            throw new IndexOutOfBoundsException("there is no such occurrence");
        }
        return found.number;
    }

    // ---- occurrences

    public int occurrences() {
        int count = 0;
        for (int end = 1; end <= stream.size; end++) {
            count += book.countBefore(stream, end);
        }
        return count;
    }

    public int occurrencesOf(int pattern) throws NoSuchElementException {
        return stream.count(need(pattern).letters);
    }

    public int occurrence(int pattern, int index) throws NoSuchElementException, IndexOutOfBoundsException {
        int place = stream.placeOf(need(pattern).letters, index);
        if (place < 0) {
            throw new IndexOutOfBoundsException("there is no such occurrence");
        }
        return place;
    }

    public int told() {
        return toldSoFar;
    }

    public int covered() {
        int count = 0;
        int reach = 0;
        for (int place = 0; place < stream.size; place++) {
            Pattern longest = book.longestAt(stream, place);
            if (longest != null) {
                reach = Math.max(reach, place + longest.letters.size);
            }
            if (place < reach) {
                count++;
            }
        }
        return count;
    }

    public int mostApart() {
        // What ends first leaves the most room for the rest, so no other choice can hold more.
        choice.choose(EARLIEST_END, book, stream);
        return choice.count;
    }

    public int chosen(int rule) throws IllegalArgumentException {
        needRule(rule);
        choice.choose(rule, book, stream);
        return choice.count;
    }

    public int chosenPattern(int rule, int index) throws IllegalArgumentException, IndexOutOfBoundsException {
        return chooseOne(rule, index).number;
    }

    public int chosenPlace(int rule, int index) throws IllegalArgumentException, IndexOutOfBoundsException {
        chooseOne(rule, index);
        return choice.placeAt(index);
    }

    // ---- replacing

    public int replacedLength(int rule) throws IllegalArgumentException {
        needRule(rule);
        rewrite(rule);
        return text.size;
    }

    public char replaced(int rule, int index) throws IllegalArgumentException, IndexOutOfBoundsException {
        needRule(rule);
        rewrite(rule);
        if (index < 0 || index >= text.size) {
            throw new IndexOutOfBoundsException("there is no such letter");
        }
        return text.letterAt(index);
    }

    public int certain() {
        int count = 0;
        int free = 0;
        for (int place = 0; place < stream.size; place++) {
            if (place >= free) {
                if (mayGrowFrom(place)) {
                    return count;
                }
                Pattern longest = book.longestAt(stream, place);
                if (longest == null) {
                    count++;
                } else {
                    count += longest.replacement.size;
                    free = place + longest.letters.size;
                }
            }
        }
        return count;
    }

    // ---- what the calls share

    private static void needLetter(char letter) {
        if (letter < 'a' || letter > 'z') {
            throw new IllegalArgumentException("a letter is a to z");
        }
    }

    private static void needRule(int rule) {
        if (rule < LEFTMOST_LONGEST || rule > EARLIEST_END) {
            throw new IllegalArgumentException("a rule is 0 to 2");
        }
    }

    private Pattern need(int number) {
        Pattern found = book.find(number);
        if (found == null) {
            throw new NoSuchElementException("there is no such pattern");
        }
        return found;
    }

    private void needRoom(int letters) {
        if (stream.size + letters > STREAM_LIMIT) {
            throw new IllegalStateException("the stream would have more than 200 letters");
        }
    }

    private int take(char letter) {
        stream.add(letter);
        int ended = book.countBefore(stream, stream.size);
        toldSoFar += ended;
        return ended;
    }

    private Pattern chooseOne(int rule, int index) {
        needRule(rule);
        choice.choose(rule, book, stream);
        Pattern found = choice.patternAt(index);
        if (found == null) {
            throw new IndexOutOfBoundsException("there is no such occurrence");
        }
        return found;
    }

    private void rewrite(int rule) {
        choice.choose(rule, book, stream);
        text.size = 0;
        int place = 0;
        for (int index = 0; index < choice.count; index++) {
            Pattern replacedOne = choice.patternAt(index);
            if (replacedOne != null) {
                text.addStream(stream, place, choice.placeAt(index));
                text.addWord(replacedOne.replacement);
                place = choice.placeAt(index) + replacedOne.letters.size;
            }
        }
        text.addStream(stream, place, stream.size);
    }

    /** Whether letters still to come could make the rest of the stream a pattern. */
    private boolean mayGrowFrom(int place) {
        int rest = stream.size - place;
        return rest > 0 && rest < WORD_LIMIT
            && book.hasBeginning(tail(stream.lastsBefore(stream.size), rest), rest, rest + 1);
    }

    private static long tail(long code, int count) {
        return code & ((1L << LETTER_BITS * count) - 1L);
    }

    private static long codeOf(char letter) {
        return letter - 'a' + 1;
    }

    private static char letterOf(long code) {
        return (char) ('a' - 1 + (code & LETTER_MASK));
    }

    /**
     * A string of at most 8 letters as one number: five bits a letter, the last letter lowest.
     * No letter is 0 there, so different strings have different numbers, also if their lengths differ.
     */
    private static final class Word {
        private final long code;
        private final int size;

        Word(long code, int size) {
            this.code = code;
            this.size = size;
        }

        Word with(char letter) {
            return new Word(code << LETTER_BITS | codeOf(letter), size + 1);
        }

        boolean beginsWith(long letters, int count) {
            return count <= size && code >>> LETTER_BITS * (size - count) == letters;
        }

        /** The number of the first letters, of all of them if there are fewer. */
        long head(int count) {
            return count < size ? code >>> LETTER_BITS * (size - count) : code;
        }

        char letterAt(int index) {
            return letterOf(head(index + 1));
        }
    }

    private static final class Pattern {
        private final int number;
        private final Word letters;
        private Word replacement;

        Pattern(int number, Word letters) {
            this.number = number;
            this.letters = letters;
            this.replacement = new Word(0L, 0);
        }
    }

    /** The patterns by their numbers; null is where one was taken out, or none came yet. */
    private static final class Book {
        private final Pattern[] rows;
        private int entered;
        private int present;

        Book() {
            rows = new Pattern[ENTERED_LIMIT];
            entered = 0;
            present = 0;
        }

        boolean isFull() {
            return present >= PRESENT_LIMIT || entered >= ENTERED_LIMIT;
        }

        boolean has(Word letters) {
            for (Pattern each : rows) {
                if (each != null && each.letters.code == letters.code) {
                    return true;
                }
            }
            return false;
        }

        Pattern find(int number) {
            return number >= 0 && number < rows.length ? rows[number] : null;
        }

        int add(Word letters) {
            int number = entered;
            if (number < rows.length) {
                rows[number] = new Pattern(number, letters);
                entered++;
                present++;
            }
            return number;
        }

        void remove(Pattern pattern) {
            if (find(pattern.number) != null) {
                rows[pattern.number] = null;
                present--;
            }
        }

        /** Whether a pattern of at least so many letters begins with these. */
        boolean hasBeginning(long letters, int count, int least) {
            for (Pattern each : rows) {
                if (each != null && each.letters.size >= least && each.letters.beginsWith(letters, count)) {
                    return true;
                }
            }
            return false;
        }

        /** How many of the last letters, at most so many, are the longest beginning of a pattern. */
        int longestEnd(long letters, int most) {
            for (int count = most; count > 0; count--) {
                if (hasBeginning(tail(letters, count), count, count)) {
                    return count;
                }
            }
            return 0;
        }

        int countBeginnings() {
            int count = 0;
            for (Pattern each : rows) {
                if (each != null) {
                    count += each.letters.size - longestSharedBefore(each);
                }
            }
            return count;
        }

        /** The length of the longest beginning that a pattern shares with one of a lower number. */
        private int longestSharedBefore(Pattern pattern) {
            int longest = 0;
            for (Pattern each : rows) {
                if (each != null && each.number < pattern.number) {
                    longest = Math.max(longest, shared(each.letters, pattern.letters));
                }
            }
            return longest;
        }

        private static int shared(Word one, Word other) {
            for (int count = Math.min(one.size, other.size); count > 0; count--) {
                if (one.beginsWith(other.head(count), count)) {
                    return count;
                }
            }
            return 0;
        }

        int countBefore(Stream stream, int end) {
            int count = 0;
            for (Pattern each : rows) {
                if (each != null && stream.holdsBefore(end, each.letters)) {
                    count++;
                }
            }
            return count;
        }

        /** The pattern that ends with the stream and has so many longer ones; null if there is none. */
        Pattern endingAt(Stream stream, int index) {
            int longer = 0;
            for (int size = WORD_LIMIT; size > 0; size--) {
                Pattern found = endingOfSize(stream, size);
                if (found != null) {
                    if (longer == index) {
                        return found;
                    }
                    longer++;
                }
            }
            return null;
        }

        private Pattern endingOfSize(Stream stream, int size) {
            for (Pattern each : rows) {
                if (each != null && each.letters.size == size && stream.holdsBefore(stream.size, each.letters)) {
                    return each;
                }
            }
            return null;
        }

        Pattern longestAt(Stream stream, int place) {
            Pattern best = null;
            for (Pattern each : rows) {
                if (each != null && stream.holdsAt(place, each.letters)
                        && (best == null || each.letters.size > best.letters.size)) {
                    best = each;
                }
            }
            return best;
        }

        Pattern firstAt(Stream stream, int place) {
            for (Pattern each : rows) {
                if (each != null && stream.holdsAt(place, each.letters)) {
                    return each;
                }
            }
            return null;
        }

        /** The longest pattern that ends before a place and does not begin before another. */
        Pattern longestWithin(Stream stream, int from, int end) {
            Pattern best = null;
            for (Pattern each : rows) {
                if (each != null && each.letters.size <= end - from && stream.holdsBefore(end, each.letters)
                        && (best == null || each.letters.size > best.letters.size)) {
                    best = each;
                }
            }
            return best;
        }
    }

    private static final class Stream {
        // For each place the last 8 letters before it (fewer at the start), so that
        // whether a word ends there is one comparison.
        private final long[] lasts;
        private int size;

        Stream() {
            lasts = new long[STREAM_LIMIT + 1];
            size = 0;
        }

        void add(char letter) {
            if (size < STREAM_LIMIT) {
                lasts[size + 1] = tail(lasts[size] << LETTER_BITS | codeOf(letter), WORD_LIMIT);
                size++;
            }
        }

        long lastsBefore(int place) {
            return place >= 0 && place <= size ? lasts[place] : 0L;
        }

        char letterAt(int place) {
            return letterOf(lastsBefore(place + 1));
        }

        // Neither asks whether so many letters are there: where one is missing the number
        // has a 0, which no letter of a word is.

        boolean holdsBefore(int end, Word word) {
            return tail(lastsBefore(end), word.size) == word.code;
        }

        boolean holdsAt(int place, Word word) {
            return tail(lastsBefore(place + word.size), word.size) == word.code;
        }

        int count(Word word) {
            int count = 0;
            for (int place = 0; place < size; place++) {
                if (holdsAt(place, word)) {
                    count++;
                }
            }
            return count;
        }

        /** The place at which a word stands that has stood so many times before; -1 if there is none. */
        int placeOf(Word word, int index) {
            int before = 0;
            for (int place = 0; place < size; place++) {
                if (holdsAt(place, word)) {
                    if (before == index) {
                        return place;
                    }
                    before++;
                }
            }
            return -1;
        }
    }

    /** The occurrences chosen last; the rows are made once, since every question chooses anew. */
    private static final class Choice {
        private final Pattern[] patternRows;
        private final int[] placeRows;
        private int count;

        Choice() {
            patternRows = new Pattern[STREAM_LIMIT];
            placeRows = new int[STREAM_LIMIT];
            count = 0;
        }

        void choose(int rule, Book book, Stream stream) {
            count = 0;
            if (rule == EARLIEST_END) {
                chooseByEnd(book, stream);
            } else {
                chooseByPlace(rule == LEFTMOST_LONGEST, book, stream);
            }
        }

        private void chooseByPlace(boolean longest, Book book, Stream stream) {
            int free = 0;
            for (int place = 0; place < stream.size; place++) {
                if (place >= free) {
                    Pattern next = longest ? book.longestAt(stream, place) : book.firstAt(stream, place);
                    if (next != null) {
                        keep(next, place);
                        free = place + next.letters.size;
                    }
                }
            }
        }

        private void chooseByEnd(Book book, Stream stream) {
            int free = 0;
            for (int end = 1; end <= stream.size; end++) {
                Pattern next = book.longestWithin(stream, free, end);
                if (next != null) {
                    keep(next, end - next.letters.size);
                    free = end;
                }
            }
        }

        private void keep(Pattern pattern, int place) {
            if (count < STREAM_LIMIT) {
                patternRows[count] = pattern;
                placeRows[count] = place;
                count++;
            }
        }

        Pattern patternAt(int index) {
            return index >= 0 && index < count ? patternRows[index] : null;
        }

        int placeAt(int index) {
            return index >= 0 && index < count ? placeRows[index] : -1;
        }
    }

    /** The replaced stream; each letter of the stream makes at most a whole replacement of it. */
    private static final class Text {
        private final char[] letters;
        private int size;

        Text() {
            letters = new char[STREAM_LIMIT * WORD_LIMIT];
            size = 0;
        }

        void add(char letter) {
            if (size < letters.length) {
                letters[size] = letter;
                size++;
            }
        }

        void addWord(Word word) {
            for (int index = 0; index < word.size; index++) {
                add(word.letterAt(index));
            }
        }

        void addStream(Stream stream, int from, int end) {
            for (int place = from; place < end; place++) {
                add(stream.letterAt(place));
            }
        }

        char letterAt(int index) {
            return index >= 0 && index < size ? letters[index] : 'a';
        }
    }
}
