/** For each promise of the document the ordinary inputs, the edges it names, and wrong inputs. */
public final class PromisesTest extends Testing {
    private static final int[] WRONG_RULES = {-1, 3, Integer.MIN_VALUE, Integer.MAX_VALUE};
    private static final int[] WRONG_NUMBERS = {-1, 40, 41, Integer.MIN_VALUE, Integer.MAX_VALUE};

    public static void main(String[] args) {
        promise01NewObject();
        promise02Draft();
        promise03Enter();
        promise03EnterLimits();
        promise04SetReplacement();
        promise05TakeOut();
        promise06Patterns();
        promise07Length();
        promise08Beginnings();
        promise09Link();
        promise10Overlap();
        promise11Feed();
        promise12FeedPattern();
        promise13Clear();
        promise14StreamLength();
        promise15Depth();
        promise16Ending();
        promise17EndingPattern();
        promise18Occurrences();
        promise19OccurrencesOf();
        promise20Occurrence();
        promise21Told();
        promise22Covered();
        promise23MostApart();
        promise24Chosen();
        promise25ChosenPattern();
        promise26ChosenPlace();
        promise27ReplacedLength();
        promise28Replaced();
        promise29Certain();
        finish("PromisesTest");
    }

    private static void promise01NewObject() {
        about("Promise 1");
        Ahoarch x = new Ahoarch();
        due(0, x::patterns);
        due(0, x::streamLength);
        due(0, x::beginnings);
        due(0, x::depth);
        due(0, x::ending);
        due(0, x::occurrences);
        due(0, x::told);
        due(0, x::covered);
        due(0, x::mostApart);
        due(0, x::certain);
        for (int rule = 0; rule < 3; rule++) {
            int r = rule;
            due(0, () -> x.chosen(r));
            due(0, () -> x.replacedLength(r));
            due(NO_INDEX, () -> x.chosenPattern(r, 0));
            due(NO_INDEX, () -> x.chosenPlace(r, 0));
            due(NO_INDEX, () -> x.replaced(r, 0));
        }
        due(NO_ELEMENT, () -> x.length(0));
        due(NO_STATE, x::enter);
        Ahoarch y = with("ab");
        feed(y, "ab");
        due(0, x::patterns);
        due(0, x::streamLength);
    }

    private static void promise02Draft() {
        about("Promise 2");
        Ahoarch x = new Ahoarch();
        for (char wrongLetter : WRONG_LETTERS.toCharArray()) {
            due(NO_ARGUMENT, () -> x.draft(wrongLetter));
        }
        due(1, () -> x.draft('a'));
        due(2, () -> x.draft('z'));
        for (int size = 3; size <= 8; size++) {
            due(size, () -> x.draft('m'));
        }
        due(NO_STATE, () -> x.draft('m'));
        // Both apply: the one documented first is thrown.
        for (char wrongLetter : WRONG_LETTERS.toCharArray()) {
            due(NO_ARGUMENT, () -> x.draft(wrongLetter));
        }
        due(0, x::enter);
        due(8, () -> x.length(0));
        due(1, () -> x.feedPattern(0));
        enter(x, "azmmmmm");
        x.takeOut(0);
        replaceBy(x, 1, "az");
        due("azm", () -> replaced(x, 0));
        due(1, () -> x.draft('b'));
        due(8, x::clear);
        due(1, x::patterns);
        due(2, () -> x.draft('c'));
    }

    private static void promise03Enter() {
        about("Promise 3");
        Ahoarch x = new Ahoarch();
        due(NO_STATE, x::enter);
        draft(x, "ab");
        due(0, x::enter);
        due(NO_STATE, x::enter);
        draft(x, "ab");
        due(NO_STATE, x::enter);
        due(3, () -> x.draft('c'));
        due(1, x::enter);
        draft(x, "ba");
        due(2, x::enter);
        draft(x, "a");
        due(3, x::enter);
        due(4, x::patterns);
        due(3, () -> x.takeOut(0));
        draft(x, "ab");
        due(4, x::enter);
        due(NO_ELEMENT, () -> x.length(0));
        due(2, () -> x.length(4));
    }

    private static void promise03EnterLimits() {
        Ahoarch x = new Ahoarch();
        for (int number = 0; number < 20; number++) {
            draft(x, pair(number));
            due(number, x::enter);
        }
        draft(x, pair(20));
        due(NO_STATE, x::enter);
        due(20, x::patterns);
        for (int number = 20; number < 40; number++) {
            int old = number - 20;
            due(19, () -> x.takeOut(old));
            due(number, x::enter);
            draft(x, pair(number + 1));
            due(NO_STATE, x::enter);
        }
        due(19, () -> x.takeOut(39));
        due(NO_STATE, x::enter);
        due(3, () -> x.draft('q'));
        due(NO_STATE, x::enter);
        due(19, x::patterns);
    }

    private static void promise04SetReplacement() {
        about("Promise 4");
        Ahoarch x = with("ab", "c");
        due(0, () -> x.setReplacement(0));
        draft(x, "xyzxyzxy");
        for (int number : WRONG_NUMBERS) {
            due(NO_ELEMENT, () -> x.setReplacement(number));
        }
        due(NO_ELEMENT, () -> x.setReplacement(2));
        due(0, () -> x.setReplacement(0));
        due(NO_STATE, x::enter);
        due(8, () -> x.setReplacement(0));
        due(0, () -> x.setReplacement(0));
        draft(x, "q");
        due(0, () -> x.setReplacement(1));
        due(1, () -> x.draft('r'));
        due(1, () -> x.setReplacement(1));
        feed(x, "c");
        due('r', () -> (int) x.replaced(0, 0));
        x.takeOut(1);
        draft(x, "c");
        due(NO_ELEMENT, () -> x.setReplacement(1));
        due(2, x::enter);
        due(0, () -> x.replacedLength(0));
        due(0, () -> x.setReplacement(2));
    }

    private static void promise05TakeOut() {
        about("Promise 5");
        Ahoarch x = with("a", "ab", "b");
        for (int number : WRONG_NUMBERS) {
            due(NO_ELEMENT, () -> x.takeOut(number));
        }
        due(NO_ELEMENT, () -> x.takeOut(3));
        feed(x, "ab");
        due(3, x::occurrences);
        due(2, () -> x.takeOut(1));
        due(NO_ELEMENT, () -> x.takeOut(1));
        due(2, x::occurrences);
        due(1, () -> x.takeOut(0));
        due(1, x::patterns);
        due(0, () -> x.takeOut(2));
        due(NO_ELEMENT, () -> x.takeOut(2));
        due(2, x::streamLength);
    }

    private static void promise06Patterns() {
        about("Promise 6");
        Ahoarch x = with("a", "b");
        due(2, x::patterns);
        draft(x, "c");
        due(2, x::patterns);
        x.enter();
        due(3, x::patterns);
        x.takeOut(1);
        due(2, x::patterns);
        x.clear();
        due(2, x::patterns);
    }

    private static void promise07Length() {
        about("Promise 7");
        Ahoarch x = with("a", "abcdefgh", "abc");
        due(1, () -> x.length(0));
        due(8, () -> x.length(1));
        due(3, () -> x.length(2));
        due(NO_ELEMENT, () -> x.length(3));
        for (int number : WRONG_NUMBERS) {
            due(NO_ELEMENT, () -> x.length(number));
        }
        x.takeOut(1);
        due(NO_ELEMENT, () -> x.length(1));
        due(3, () -> x.length(2));
    }

    private static void promise08Beginnings() {
        about("Promise 8");
        Ahoarch x = with("he", "she", "his", "hers");
        due(9, x::beginnings);
        x.takeOut(3);
        due(7, x::beginnings);
        x.takeOut(0);
        due(6, x::beginnings);
        x.takeOut(2);
        due(3, x::beginnings);
        x.takeOut(1);
        due(0, x::beginnings);
        due(8, with("aaaaaaaa", "aaaa", "a")::beginnings);
        due(8, with("a", "aaaa", "aaaaaaaa")::beginnings);
        due(4, with("ab", "ba")::beginnings);
    }

    private static void promise09Link() {
        about("Promise 9");
        Ahoarch x = with("he", "she", "hers", "s", "aaaa");
        due(0, () -> x.link(0));
        due(2, () -> x.link(1));
        due(1, () -> x.link(2));
        due(0, () -> x.link(3));
        due(3, () -> x.link(4));
        due(NO_ELEMENT, () -> x.link(5));
        for (int number : WRONG_NUMBERS) {
            due(NO_ELEMENT, () -> x.link(number));
        }
        x.takeOut(0);
        due(2, () -> x.link(1));
        x.takeOut(2);
        due(0, () -> x.link(1));
        due(NO_ELEMENT, () -> x.link(0));
        due(7, () -> with("abcdefgh", "bcdefghi").link(0));
        due(2, () -> with("abcab").link(0));
    }

    private static void promise10Overlap() {
        about("Promise 10");
        Ahoarch x = with("abab", "babb", "ab", "b", "aaaaaaaa", "abcdefgh", "bcdefghi");
        due(3, () -> x.overlap(0, 1));
        due(0, () -> x.overlap(1, 0));
        due(2, () -> x.overlap(0, 0));
        due(1, () -> x.overlap(1, 1));
        due(0, () -> x.overlap(0, 2));
        due(0, () -> x.overlap(0, 3));
        due(1, () -> x.overlap(2, 1));
        due(7, () -> x.overlap(4, 4));
        due(7, () -> x.overlap(5, 6));
        due(0, () -> x.overlap(6, 5));
        due(NO_ELEMENT, () -> x.overlap(0, 7));
        due(NO_ELEMENT, () -> x.overlap(7, 0));
        for (int number : WRONG_NUMBERS) {
            due(NO_ELEMENT, () -> x.overlap(number, 0));
            due(NO_ELEMENT, () -> x.overlap(0, number));
        }
        x.takeOut(1);
        due(NO_ELEMENT, () -> x.overlap(1, 0));
        due(NO_ELEMENT, () -> x.overlap(0, 1));
        due(NO_ELEMENT, () -> x.overlap(1, 1));
    }

    private static void promise11Feed() {
        about("Promise 11");
        Ahoarch x = with("a", "aa", "za");
        for (char wrongLetter : WRONG_LETTERS.toCharArray()) {
            due(NO_ARGUMENT, () -> x.feed(wrongLetter));
        }
        due(0, x::streamLength);
        due(1, () -> x.feed('a'));
        due(2, () -> x.feed('a'));
        due(0, () -> x.feed('z'));
        due(2, () -> x.feed('a'));
        feed(x, "b".repeat(195));
        due(1, () -> x.feed('a'));
        due(NO_STATE, () -> x.feed('a'));
        for (char wrongLetter : WRONG_LETTERS.toCharArray()) {
            due(NO_ARGUMENT, () -> x.feed(wrongLetter));
        }
        due(200, x::streamLength);
        due(6, x::told);
        x.clear();
        due(1, () -> x.feed('a'));
    }

    private static void promise12FeedPattern() {
        about("Promise 12");
        Ahoarch x = with("abcdefgh", "a", "h", "ha", "q");
        due(3, () -> x.feedPattern(0));
        due(4, () -> x.feedPattern(0));
        due(2, () -> x.feedPattern(1));
        due(17, x::streamLength);
        for (int times = 0; times < 22; times++) {
            x.feedPattern(0);
        }
        due(193, x::streamLength);
        int told = x.told();
        due(NO_STATE, () -> x.feedPattern(0));
        due(193, x::streamLength);
        due(told, x::told);
        due(NO_ELEMENT, () -> x.feedPattern(5));
        for (int times = 0; times < 7; times++) {
            due(1, () -> x.feedPattern(4));
        }
        due(NO_STATE, () -> x.feedPattern(4));
        due(200, x::streamLength);
        // Both could apply: the one documented first is thrown.
        for (int number : WRONG_NUMBERS) {
            due(NO_ELEMENT, () -> x.feedPattern(number));
        }
        x.takeOut(4);
        due(NO_ELEMENT, () -> x.feedPattern(4));
        Ahoarch full = with("abcdefgh");
        for (int times = 0; times < 25; times++) {
            due(1, () -> full.feedPattern(0));
        }
        due(200, full::streamLength);
    }

    private static void promise13Clear() {
        about("Promise 13");
        Ahoarch x = with("ab");
        due(0, x::clear);
        feed(x, "abab");
        draft(x, "q");
        due(4, x::clear);
        due(0, x::clear);
        due(0, x::streamLength);
        due(0, x::depth);
        due(0, x::ending);
        due(0, x::occurrences);
        due(0, x::covered);
        due(0, () -> x.replacedLength(0));
        due(1, x::patterns);
        due(2, () -> x.draft('r'));
        // What stood there before must not join the letters that come now.
        due(0, () -> x.feed('b'));
        due(0, x::occurrences);
    }

    private static void promise14StreamLength() {
        about("Promise 14");
        Ahoarch x = with("abc");
        due(0, x::streamLength);
        feed(x, "zz");
        due(2, x::streamLength);
        x.feedPattern(0);
        due(5, x::streamLength);
        feed(x, "z".repeat(195));
        due(200, x::streamLength);
        x.clear();
        due(0, x::streamLength);
    }

    private static void promise15Depth() {
        about("Promise 15");
        Ahoarch x = with("he", "she", "hers");
        due(0, x::depth);
        feed(x, "u");
        due(0, x::depth);
        feed(x, "s");
        due(1, x::depth);
        feed(x, "h");
        due(2, x::depth);
        feed(x, "e");
        due(3, x::depth);
        feed(x, "r");
        due(3, x::depth);
        feed(x, "s");
        due(4, x::depth);
        x.takeOut(2);
        due(1, x::depth);
        enter(x, "shersxyz");
        due(5, x::depth);
        x.clear();
        due(0, x::depth);
        Ahoarch y = with("abcdefgh", "bcdefghi");
        y.feedPattern(0);
        due(8, y::depth);
        y.takeOut(0);
        due(7, y::depth);
        y.takeOut(1);
        due(0, y::depth);
    }

    private static void promise16Ending() {
        about("Promise 16");
        Ahoarch x = with("he", "she", "e", "hers");
        due(0, x::ending);
        feed(x, "sh");
        due(0, x::ending);
        feed(x, "e");
        due(3, x::ending);
        x.takeOut(0);
        due(2, x::ending);
        enter(x, "he");
        due(3, x::ending);
        feed(x, "r");
        due(0, x::ending);
        x.clear();
        due(0, x::ending);
        feed(x, "e");
        due(1, x::ending);
    }

    private static void promise17EndingPattern() {
        about("Promise 17");
        Ahoarch x = with("he", "she", "e", "hers");
        due(NO_INDEX, () -> x.endingPattern(0));
        feed(x, "she");
        due(1, () -> x.endingPattern(0));
        due(0, () -> x.endingPattern(1));
        due(2, () -> x.endingPattern(2));
        due(NO_INDEX, () -> x.endingPattern(3));
        due(NO_INDEX, () -> x.endingPattern(-1));
        due(NO_INDEX, () -> x.endingPattern(Integer.MIN_VALUE));
        due(NO_INDEX, () -> x.endingPattern(Integer.MAX_VALUE));
        x.takeOut(0);
        due(2, () -> x.endingPattern(1));
        enter(x, "he");
        due(4, () -> x.endingPattern(1));
        x.clear();
        due(NO_INDEX, () -> x.endingPattern(0));
        Ahoarch y = with("a", "aa", "aaa", "aaaa", "aaaaa", "aaaaaa", "aaaaaaa", "aaaaaaaa");
        feed(y, "aaaaaaaa");
        for (int index = 0; index < 8; index++) {
            int i = index;
            due(7 - index, () -> y.endingPattern(i));
        }
        due(NO_INDEX, () -> y.endingPattern(8));
    }

    private static void promise18Occurrences() {
        about("Promise 18");
        Ahoarch x = with("aa", "a");
        due(0, x::occurrences);
        feed(x, "aaaba");
        due(6, x::occurrences);
        x.takeOut(1);
        due(2, x::occurrences);
        enter(x, "b");
        due(3, x::occurrences);
        enter(x, "aaabaa");
        due(3, x::occurrences);
        x.clear();
        due(0, x::occurrences);
        Ahoarch y = with("a", "aa", "aaa", "aaaa", "aaaaa", "aaaaaa", "aaaaaaa", "aaaaaaaa");
        feed(y, "a".repeat(200));
        due(8 * 200 - 28, y::occurrences);
    }

    private static void promise19OccurrencesOf() {
        about("Promise 19");
        Ahoarch x = with("aa", "a", "b");
        feed(x, "aaaba");
        due(2, () -> x.occurrencesOf(0));
        due(4, () -> x.occurrencesOf(1));
        due(1, () -> x.occurrencesOf(2));
        due(NO_ELEMENT, () -> x.occurrencesOf(3));
        for (int number : WRONG_NUMBERS) {
            due(NO_ELEMENT, () -> x.occurrencesOf(number));
        }
        x.takeOut(1);
        due(NO_ELEMENT, () -> x.occurrencesOf(1));
        enter(x, "ab");
        due(1, () -> x.occurrencesOf(3));
        x.clear();
        due(0, () -> x.occurrencesOf(0));
    }

    private static void promise20Occurrence() {
        about("Promise 20");
        Ahoarch x = with("aa", "a", "q");
        feed(x, "aaaba");
        due(0, () -> x.occurrence(0, 0));
        due(1, () -> x.occurrence(0, 1));
        due(NO_INDEX, () -> x.occurrence(0, 2));
        due(NO_INDEX, () -> x.occurrence(0, -1));
        due(NO_INDEX, () -> x.occurrence(0, Integer.MAX_VALUE));
        due(NO_INDEX, () -> x.occurrence(0, Integer.MIN_VALUE));
        due(4, () -> x.occurrence(1, 3));
        due(NO_INDEX, () -> x.occurrence(1, 4));
        due(NO_INDEX, () -> x.occurrence(2, 0));
        // Both apply: the one documented first is thrown.
        for (int number : WRONG_NUMBERS) {
            due(NO_ELEMENT, () -> x.occurrence(number, 0));
            due(NO_ELEMENT, () -> x.occurrence(number, -1));
        }
        x.takeOut(0);
        due(NO_ELEMENT, () -> x.occurrence(0, 0));
        enter(x, "ba");
        due(3, () -> x.occurrence(3, 0));
        x.clear();
        feed(x, "b".repeat(199) + "a");
        due(199, () -> x.occurrence(1, 0));
        due(198, () -> x.occurrence(3, 0));
    }

    private static void promise21Told() {
        about("Promise 21");
        Ahoarch x = with("a", "aa");
        due(0, x::told);
        feed(x, "aa");
        due(3, x::told);
        due(4, () -> x.feedPattern(1));
        due(7, x::told);
        x.takeOut(0);
        due(7, x::told);
        enter(x, "aaa");
        due(7, x::told);
        feed(x, "a");
        due(9, x::told);
        feed(x, "b");
        due(9, x::told);
        due(7, x::occurrences);
        x.clear();
        due(0, x::told);
        feed(x, "aa");
        due(1, x::told);
    }

    private static void promise22Covered() {
        about("Promise 22");
        Ahoarch x = with("ab", "c", "bxcxd");
        due(0, x::covered);
        feed(x, "zabxc");
        due(3, x::covered);
        // A later end reaches back over a letter that was free.
        feed(x, "xd");
        due(6, x::covered);
        x.takeOut(2);
        due(3, x::covered);
        x.takeOut(0);
        x.takeOut(1);
        due(0, x::covered);
        enter(x, "z");
        due(1, x::covered);
        x.clear();
        due(0, x::covered);
        Ahoarch y = with("aba");
        feed(y, "ababa");
        due(5, y::covered);
        Ahoarch full = with("a");
        feed(full, "a".repeat(200));
        due(200, full::covered);
    }

    private static void promise23MostApart() {
        about("Promise 23");
        Ahoarch x = with("abcd", "bc", "de", "ef");
        due(0, x::mostApart);
        feed(x, "abcdef");
        due(2, x::mostApart);
        enter(x, "a");
        due(3, x::mostApart);
        enter(x, "f");
        due(4, x::mostApart);
        x.takeOut(2);
        due(3, x::mostApart);
        x.clear();
        due(0, x::mostApart);
        Ahoarch y = with("aba");
        feed(y, "abababa");
        due(2, y::mostApart);
        Ahoarch full = with("aa", "a", "aaaaaaaa");
        feed(full, "a".repeat(200));
        due(200, full::mostApart);
    }

    /** A stream of which the three rules choose differently. */
    private static Ahoarch threeRules() {
        Ahoarch x = with("ab", "abc", "a", "cd", "bcd");
        feed(x, "zabcdabcz");
        return x;
    }

    private static void promise24Chosen() {
        about("Promise 24");
        Ahoarch x = threeRules();
        due(2, () -> x.chosen(0));
        due(3, () -> x.chosen(1));
        due(3, () -> x.chosen(2));
        x.takeOut(3);
        due(2, () -> x.chosen(0));
        due(2, () -> x.chosen(1));
        due(3, () -> x.chosen(2));
        for (int rule : WRONG_RULES) {
            due(NO_ARGUMENT, () -> x.chosen(rule));
            due(NO_ARGUMENT, () -> new Ahoarch().chosen(rule));
        }
        x.clear();
        due(0, () -> x.chosen(0));
        Ahoarch y = with("aa");
        feed(y, "aaaaa");
        for (int rule = 0; rule < 3; rule++) {
            int r = rule;
            due(2, () -> y.chosen(r));
        }
    }

    private static void promise25ChosenPattern() {
        about("Promise 25");
        Ahoarch x = threeRules();
        due("1 1", () -> chosenPatterns(x, 0));
        due("0 3 0", () -> chosenPatterns(x, 1));
        due("2 4 2", () -> chosenPatterns(x, 2));
        dueNoChosen(x);
        for (int rule : WRONG_RULES) {
            due(NO_ARGUMENT, () -> x.chosenPattern(rule, 0));
            due(NO_ARGUMENT, () -> x.chosenPattern(rule, -1));
        }
        // The lowest number counts, not the order of what is left of it.
        x.takeOut(0);
        due("1 1", () -> chosenPatterns(x, 1));
        enter(x, "ab");
        due("1 1", () -> chosenPatterns(x, 1));
        x.takeOut(1);
        due("2 4 2", () -> chosenPatterns(x, 1));
        due("5 3 5", () -> chosenPatterns(x, 0));
    }

    private static void dueNoChosen(Ahoarch x) {
        for (int rule = 0; rule < 3; rule++) {
            int r = rule;
            int count = x.chosen(r);
            due(NO_INDEX, () -> x.chosenPattern(r, count));
            due(NO_INDEX, () -> x.chosenPlace(r, count));
            for (int index : new int[] {-1, Integer.MIN_VALUE, Integer.MAX_VALUE, 200, 201}) {
                due(NO_INDEX, () -> x.chosenPattern(r, index));
                due(NO_INDEX, () -> x.chosenPlace(r, index));
            }
        }
    }

    private static void promise26ChosenPlace() {
        about("Promise 26");
        Ahoarch x = threeRules();
        due("1 5", () -> chosenPlaces(x, 0));
        due("1 3 5", () -> chosenPlaces(x, 1));
        due("1 2 5", () -> chosenPlaces(x, 2));
        dueNoChosen(x);
        for (int rule : WRONG_RULES) {
            due(NO_ARGUMENT, () -> x.chosenPlace(rule, 0));
            due(NO_ARGUMENT, () -> x.chosenPlace(rule, -1));
        }
        // The longest of those that end first; what begins too early is out.
        Ahoarch y = with("bc", "abc", "cde", "de", "e");
        feed(y, "abcde");
        due("0 3", () -> chosenPlaces(y, 2));
        due("1 3", () -> chosenPatterns(y, 2));
        Ahoarch last = with("z");
        feed(last, "a".repeat(199) + "z");
        for (int rule = 0; rule < 3; rule++) {
            int r = rule;
            due(199, () -> last.chosenPlace(r, 0));
        }
        Ahoarch full = with("a");
        feed(full, "a".repeat(200));
        due(199, () -> full.chosenPlace(2, 199));
        due(NO_INDEX, () -> full.chosenPlace(2, 200));
    }

    private static Ahoarch replacing() {
        Ahoarch x = threeRules();
        replaceBy(x, 0, "k");
        replaceBy(x, 1, "lm");
        replaceBy(x, 3, "nnnnnnnn");
        replaceBy(x, 4, "p");
        return x;
    }

    private static void promise27ReplacedLength() {
        about("Promise 27");
        Ahoarch x = replacing();
        due("zlmdlmz".length(), () -> x.replacedLength(0));
        due("zknnnnnnnnkcz".length(), () -> x.replacedLength(1));
        due("zpbcz".length(), () -> x.replacedLength(2));
        for (int rule : WRONG_RULES) {
            due(NO_ARGUMENT, () -> x.replacedLength(rule));
            due(NO_ARGUMENT, () -> new Ahoarch().replacedLength(rule));
        }
        Ahoarch gone = with("a");
        feed(gone, "aaaa");
        due(0, () -> gone.replacedLength(0));
        gone.takeOut(0);
        due(4, () -> gone.replacedLength(0));
        Ahoarch full = with("a");
        replaceBy(full, 0, "abcdefgh");
        feed(full, "a".repeat(200));
        due(1600, () -> full.replacedLength(1));
    }

    private static void promise28Replaced() {
        about("Promise 28");
        Ahoarch x = replacing();
        due("zlmdlmz", () -> replaced(x, 0));
        due("zknnnnnnnnkcz", () -> replaced(x, 1));
        due("zpbcz", () -> replaced(x, 2));
        due(NO_INDEX, () -> x.replaced(0, 7));
        due(NO_INDEX, () -> x.replaced(1, 13));
        due(NO_INDEX, () -> x.replaced(2, 5));
        for (int rule = 0; rule < 3; rule++) {
            int r = rule;
            due(NO_INDEX, () -> x.replaced(r, -1));
            due(NO_INDEX, () -> x.replaced(r, Integer.MAX_VALUE));
            due(NO_INDEX, () -> x.replaced(r, Integer.MIN_VALUE));
        }
        for (int rule : WRONG_RULES) {
            due(NO_ARGUMENT, () -> x.replaced(rule, 0));
            due(NO_ARGUMENT, () -> x.replaced(rule, -1));
        }
        Ahoarch full = with("a");
        replaceBy(full, 0, "abcdefgz");
        feed(full, "a".repeat(200));
        due('z', () -> (int) full.replaced(2, 1599));
        due('a', () -> (int) full.replaced(2, 1592));
        due(NO_INDEX, () -> full.replaced(2, 1600));
        Ahoarch plain = with("q");
        feed(plain, "abcdefghijklmnoprstuvwxyz");
        due("abcdefghijklmnoprstuvwxyz", () -> replaced(plain, 0));
    }

    private static void promise29Certain() {
        about("Promise 29");
        Ahoarch x = with("ab", "abcd", "q");
        replaceBy(x, 0, "xyz");
        feed(x, "z");
        due(1, x::certain);
        feed(x, "a");
        due(1, x::certain);
        feed(x, "b");
        due(1, x::certain);
        feed(x, "c");
        due(1, x::certain);
        feed(x, "e");
        due(6, x::certain);
        feed(x, "ab");
        due(6, x::certain);
        // What may still become a pattern counts only from a place where one stands on the way.
        feed(x, "cd");
        due(6, x::certain);
        feed(x, "z");
        due(7, x::certain);
        x.clear();
        due(0, x::certain);
        Ahoarch whole = with("abc", "c");
        feed(whole, "abc");
        due(0, whole::certain);
        replaceBy(whole, 0, "kl");
        due(2, whole::certain);
        enter(whole, "cd");
        due(2, whole::certain);
        enter(whole, "abcd");
        due(0, whole::certain);
        whole.takeOut(3);
        whole.takeOut(0);
        due(2, whole::certain);
        Ahoarch eight = with("aaaaaaaa");
        feed(eight, "aaaaaaa");
        due(0, eight::certain);
        replaceBy(eight, 0, "b");
        feed(eight, "a");
        due(1, eight::certain);
        feed(eight, "a");
        due(1, eight::certain);
        feed(eight, "b");
        due(3, eight::certain);
        Ahoarch full = with("a");
        replaceBy(full, 0, "abcdefgz");
        feed(full, "a".repeat(200));
        due(1600, full::certain);
    }

    // ---- helpers

    private static String chosenPatterns(Ahoarch x, int rule) {
        StringBuilder numbers = new StringBuilder();
        int count = x.chosen(rule);
        for (int index = 0; index < count; index++) {
            numbers.append(index == 0 ? "" : " ").append(x.chosenPattern(rule, index));
        }
        return numbers.toString();
    }

    private static String chosenPlaces(Ahoarch x, int rule) {
        StringBuilder places = new StringBuilder();
        int count = x.chosen(rule);
        for (int index = 0; index < count; index++) {
            places.append(index == 0 ? "" : " ").append(x.chosenPlace(rule, index));
        }
        return places.toString();
    }
}
