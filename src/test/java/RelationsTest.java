import java.util.ArrayList;
import java.util.Arrays;
import java.util.HashSet;
import java.util.List;
import java.util.Set;

/**
 * What the document says of a call in words that other calls can show: each answer is found again
 * by calls alone, without a model of the matcher.
 */
public final class RelationsTest extends Testing {
    // All of a and b, so that the short words of a and b are the streams that matter.
    private static final String[][] BOOKS = {
        {},
        {"a", "aa", "aaaa"},
        {"ab", "abab", "ba"},
        {"aab", "ab", "b", "abb", "bbab"},
        {"abaababa", "aba", "baa", "ab"},
        {"b", "bab", "babb", "abbab", "aa"},
        {"abba", "b"},
    };

    public static void main(String[] args) {
        List<String> streams = words("ab", 7);
        for (String[] book : BOOKS) {
            beginningsAreTheWordsThatAreStates(book);
            linkIsTheStateWithoutTheFirstLetter(book);
            overlapIsHowFarOneGoesIntoALaterOne(book);
            for (String stream : streams) {
                toldWhenTheLastLetterComes(book, stream);
                coveredAreTheLettersOfOccurrences(book, stream);
                mostApartOfAllChoices(book, stream);
                replacedIsMadeOfTheChosen(book, stream);
                certainWhateverLettersStillCome(book, stream);
            }
        }
        finish("RelationsTest");
    }

    // ---- patterns

    private static void beginningsAreTheWordsThatAreStates(String[] book) {
        about("Promise 8, patterns " + Arrays.toString(book));
        int states = 0;
        for (String word : words("ab", 8)) {
            Ahoarch x = with(book);
            feed(x, word);
            if (!word.isEmpty() && x.depth() == word.length()) {
                states++;
            }
        }
        due(states, () -> with(book).beginnings());
    }

    private static void linkIsTheStateWithoutTheFirstLetter(String[] book) {
        about("Promise 9, patterns " + Arrays.toString(book));
        for (int number = 0; number < book.length; number++) {
            int n = number;
            Ahoarch x = with(book);
            feed(x, book[number].substring(1));
            due(x.depth(), () -> x.link(n));
        }
    }

    private static void overlapIsHowFarOneGoesIntoALaterOne(String[] book) {
        about("Promise 10, patterns " + Arrays.toString(book));
        for (int first = 0; first < book.length; first++) {
            for (int second = 0; second < book.length; second++) {
                int one = first;
                int other = second;
                due(farthest(book, one, other), () -> with(book).overlap(one, other));
            }
        }
    }

    /** The greatest number of letters that the first one shares with a second one that begins and ends later. */
    private static int farthest(String[] book, int first, int second) {
        int farthest = 0;
        int letters = book[first].length();
        for (int common = 1; common < letters && common < book[second].length(); common++) {
            Ahoarch x = with(book);
            feed(x, book[first] + book[second].substring(common));
            if (places(x, second).contains(letters - common)) {
                farthest = common;
            }
        }
        return farthest;
    }

    // ---- occurrences

    private static void toldWhenTheLastLetterComes(String[] book, String stream) {
        about("Promises 11, 16 to 21, patterns " + Arrays.toString(book) + ", stream " + stream);
        Ahoarch x = with(book);
        int told = 0;
        for (char letter : stream.toCharArray()) {
            int ended = x.feed(letter);
            told += ended;
            due(ended, x::ending);
            due(NO_INDEX, () -> x.endingPattern(ended));
            due(ended, () -> everShorter(x, ended));
        }
        int all = 0;
        for (int number = 0; number < book.length; number++) {
            all += x.occurrencesOf(number);
        }
        due(told, x::told);
        due(told, x::occurrences);
        due(all, x::occurrences);
    }

    /** How many of the patterns that end here are shorter than the one before. */
    private static int everShorter(Ahoarch x, int ended) {
        int shorter = 0;
        int before = 9;
        for (int index = 0; index < ended; index++) {
            int size = x.length(x.endingPattern(index));
            shorter += size < before ? 1 : 0;
            before = size;
        }
        return shorter;
    }

    private static void coveredAreTheLettersOfOccurrences(String[] book, String stream) {
        about("Promise 22, patterns " + Arrays.toString(book) + ", stream " + stream);
        Ahoarch x = with(book);
        feed(x, stream);
        Set<Integer> covered = new HashSet<>();
        for (int[] each : spans(x, book.length)) {
            for (int place = each[0]; place < each[1]; place++) {
                covered.add(place);
            }
        }
        due(covered.size(), x::covered);
    }

    private static void mostApartOfAllChoices(String[] book, String stream) {
        about("Promise 23, patterns " + Arrays.toString(book) + ", stream " + stream);
        Ahoarch x = with(book);
        feed(x, stream);
        due(most(spans(x, book.length), 0), x::mostApart);
    }

    /** The most of these that can be chosen from a place on, tried with each of them as the first. */
    private static int most(List<int[]> spans, int from) {
        int most = 0;
        for (int[] each : spans) {
            if (each[0] >= from) {
                most = Math.max(most, 1 + most(spans, each[1]));
            }
        }
        return most;
    }

    // ---- replacing

    private static void replacedIsMadeOfTheChosen(String[] book, String stream) {
        about("Promises 24 to 28, patterns " + Arrays.toString(book) + ", stream " + stream);
        for (int rule = 0; rule < 3; rule++) {
            int r = rule;
            Ahoarch x = replacing(book);
            feed(x, stream);
            StringBuilder text = new StringBuilder();
            int place = 0;
            for (int index = 0; index < x.chosen(rule); index++) {
                int pattern = x.chosenPattern(rule, index);
                text.append(stream, place, x.chosenPlace(rule, index)).append(replacementOf(pattern));
                place = x.chosenPlace(rule, index) + x.length(pattern);
            }
            text.append(stream, place, stream.length());
            due(text.toString(), () -> replaced(x, r));
            due(NO_INDEX, () -> x.replaced(r, text.length()));
        }
    }

    /**
     * With replacements that no two patterns begin alike, nor a letter of the stream, the letter
     * behind what is certain depends on what comes: so what is certain is all that stays.
     */
    private static void certainWhateverLettersStillCome(String[] book, String stream) {
        about("Promise 29, patterns " + Arrays.toString(book) + ", stream " + stream);
        Ahoarch x = replacing(book);
        feed(x, stream);
        String stays = replaced(x, 0);
        for (String more : continuations(book)) {
            Ahoarch later = replacing(book);
            feed(later, stream + more);
            stays = common(stays, replaced(later, 0));
        }
        due(stays.length(), x::certain);
    }

    private static List<String> continuations(String[] book) {
        List<String> all = words("ab", 2);
        all.add("y");
        all.add("z");
        for (String each : book) {
            for (int from = 1; from < each.length(); from++) {
                all.add(each.substring(from));
            }
        }
        return all;
    }

    private static String common(String one, String other) {
        int size = 0;
        while (size < one.length() && size < other.length() && one.charAt(size) == other.charAt(size)) {
            size++;
        }
        return one.substring(0, size);
    }

    // ---- helpers

    private static Ahoarch replacing(String[] book) {
        Ahoarch x = with(book);
        for (int number = 0; number < book.length; number++) {
            replaceBy(x, number, replacementOf(number));
        }
        return x;
    }

    private static String replacementOf(int number) {
        return "ppp".replace('p', (char) ('p' + number)).substring(0, 1 + number % 3);
    }

    /** All words of these letters, the empty one first, of at most so many. */
    private static List<String> words(String letters, int most) {
        List<String> all = new ArrayList<>();
        all.add("");
        for (int index = 0; index < all.size(); index++) {
            String before = all.get(index);
            if (before.length() < most) {
                for (char letter : letters.toCharArray()) {
                    all.add(before + letter);
                }
            }
        }
        return all;
    }

    private static List<Integer> places(Ahoarch x, int number) {
        List<Integer> all = new ArrayList<>();
        int count = x.occurrencesOf(number);
        for (int index = 0; index < count; index++) {
            all.add(x.occurrence(number, index));
        }
        return all;
    }

    /** Place and end of each occurrence. */
    private static List<int[]> spans(Ahoarch x, int patterns) {
        List<int[]> all = new ArrayList<>();
        for (int number = 0; number < patterns; number++) {
            for (int place : places(x, number)) {
                all.add(new int[] {place, place + x.length(number)});
            }
        }
        return all;
    }
}
