import java.util.ArrayList;
import java.util.HashSet;
import java.util.List;
import java.util.NoSuchElementException;
import java.util.Set;
import java.util.TreeMap;
import java.util.function.Supplier;

/**
 * Long runs of calls, each answer against a model that says the document's words with texts alone.
 * The runs come from a generator of fixed numbers, so they are the same each time.
 */
public final class PlainModelTest extends Testing {
    private static final int RUNS = 600;
    private static final int CALLS = 512;
    private static final int WRONG_ENOUGH = 20;

    private static long seed = 1;

    public static void main(String[] args) {
        for (int run = 0; run < RUNS && wrongAnswers() < WRONG_ENOUGH; run++) {
            new Run(run).go();
        }
        finish("PlainModelTest");
    }

    private static int next(int bound) {
        seed = seed * 6364136223846793005L + 1442695040888963407L;
        return (int) ((seed >>> 33) % bound);
    }

    private static final class Run {
        private final int number;
        private final int alphabet;
        private final int growth;
        private final Ahoarch x = new Ahoarch();
        private final Model m = new Model();
        private final StringBuilder calls = new StringBuilder();
        private int called = 0;

        Run(int number) {
            this.number = number;
            this.alphabet = number % 7 == 6 ? 26 : 1 + number % 4;
            this.growth = 1 + number % 9;
        }

        void go() {
            while (called < CALLS && wrongAnswers() < WRONG_ENOUGH) {
                if (next(3) == 0) {
                    ask();
                } else {
                    change();
                }
            }
        }

        private char letter() {
            if (next(60) == 0) {
                return WRONG_LETTERS.charAt(next(WRONG_LETTERS.length()));
            }
            return (char) ('a' + next(alphabet));
        }

        private int pattern() {
            return next(25) == 0 ? next(60) - 10 : next(Math.max(1, m.entered));
        }

        private int rule() {
            return next(25) == 0 ? next(8) - 3 : next(3);
        }

        private int index(int bound) {
            return next(10) == 0 ? next(bound + 9) - 4 : next(bound + 1);
        }

        private void change() {
            int kind = next(40);
            if (kind < 12) {
                char c = letter();
                due("draft(" + (int) c + ")", () -> x.draft(c), () -> m.draft(c));
            } else if (kind < 12 + Math.max(1, 9 - growth)) {
                due("enter()", x::enter, m::enter);
            } else if (kind < 23) {
                int p = pattern();
                due("setReplacement(" + p + ")", () -> x.setReplacement(p), () -> m.setReplacement(p));
            } else if (kind == 23) {
                int p = pattern();
                due("takeOut(" + p + ")", () -> x.takeOut(p), () -> m.takeOut(p));
            } else if (kind < 34) {
                char c = letter();
                due("feed(" + (int) c + ")", () -> x.feed(c), () -> m.feed(c));
            } else if (kind < 39 || next(4) != 0) {
                int p = pattern();
                due("feedPattern(" + p + ")", () -> x.feedPattern(p), () -> m.feedPattern(p));
            } else {
                due("clear()", x::clear, m::clear);
            }
        }

        private void ask() {
            int p = pattern();
            int q = pattern();
            int r = rule();
            int few = index(8);
            int many = index(40);
            int any = index(Math.max(1, m.stream.length()));
            switch (next(22)) {
                case 0: due("patterns()", x::patterns, () -> m.letters.size()); break;
                case 1: due("length(" + p + ")", () -> x.length(p), () -> m.need(p).length()); break;
                case 2: due("beginnings()", x::beginnings, () -> m.beginnings().size()); break;
                case 3: due("link(" + p + ")", () -> x.link(p), () -> m.link(p)); break;
                case 4: due("overlap(" + p + ", " + q + ")", () -> x.overlap(p, q), () -> m.overlap(p, q)); break;
                case 5: due("streamLength()", x::streamLength, () -> m.stream.length()); break;
                case 6: due("depth()", x::depth, m::depth); break;
                case 7: due("ending()", x::ending, () -> m.endings().size()); break;
                case 8: due("endingPattern(" + few + ")", () -> x.endingPattern(few), () -> m.at(m.endings(), few)); break;
                case 9: due("occurrences()", x::occurrences, m::occurrences); break;
                case 10: due("occurrencesOf(" + p + ")", () -> x.occurrencesOf(p), () -> m.places(p).size()); break;
                case 11: due("occurrence(" + p + ", " + few + ")", () -> x.occurrence(p, few), () -> m.at(m.places(p), few)); break;
                case 12: due("told()", x::told, () -> m.told); break;
                case 13: due("covered()", x::covered, m::covered); break;
                case 14: due("mostApart()", x::mostApart, m::mostApart); break;
                case 15: due("chosen(" + r + ")", () -> x.chosen(r), () -> m.chosen(r).size()); break;
                case 16: due("chosenPattern(" + r + ", " + many + ")", () -> x.chosenPattern(r, many), () -> m.at(m.chosen(r), many)[1]); break;
                case 17: due("chosenPlace(" + r + ", " + many + ")", () -> x.chosenPlace(r, many), () -> m.at(m.chosen(r), many)[0]); break;
                case 18: due("replacedLength(" + r + ")", () -> x.replacedLength(r), () -> m.replaced(r).length()); break;
                case 19: due("replaced(" + r + ", " + any + ")", () -> x.replaced(r, any), () -> m.letter(m.replaced(r), any)); break;
                case 20: due("certain()", x::certain, m::certain); break;
                default: wholeText(r); break;
            }
        }

        /** Letters in a row, since single ones at random places seldom show a wrong joint. */
        private void wholeText(int rule) {
            for (int index = 0; index <= m.stream.length() && index < 12 && called < CALLS; index++) {
                int i = index;
                due("replaced(" + rule + ", " + i + ")", () -> x.replaced(rule, i), () -> m.letter(m.replaced(rule), i));
            }
        }

        private void due(String call, Supplier<?> got, Supplier<?> want) {
            called++;
            String gotten = answer(got);
            String wanted = answer(want);
            calls.append(call).append(' ');
            if (!gotten.equals(wanted)) {
                about("run " + number + ": " + calls);
            }
            Testing.due(wanted, () -> gotten);
        }
    }

    private static final class Model {
        private final TreeMap<Integer, String> letters = new TreeMap<>();
        private final TreeMap<Integer, String> replacements = new TreeMap<>();
        private String draft = "";
        private String stream = "";
        private int entered = 0;
        private int told = 0;

        int draft(char letter) {
            needLetter(letter);
            if (draft.length() == 8) {
                throw new IllegalStateException();
            }
            draft += letter;
            return draft.length();
        }

        int enter() {
            if (draft.isEmpty() || letters.containsValue(draft) || letters.size() == 20 || entered == 40) {
                throw new IllegalStateException();
            }
            letters.put(entered, draft);
            replacements.put(entered, "");
            draft = "";
            return entered++;
        }

        int setReplacement(int pattern) {
            need(pattern);
            int before = replacements.get(pattern).length();
            replacements.put(pattern, draft);
            draft = "";
            return before;
        }

        int takeOut(int pattern) {
            need(pattern);
            letters.remove(pattern);
            replacements.remove(pattern);
            return letters.size();
        }

        Set<String> beginnings() {
            Set<String> all = new HashSet<>();
            for (String each : letters.values()) {
                for (int size = 1; size <= each.length(); size++) {
                    all.add(each.substring(0, size));
                }
            }
            return all;
        }

        int link(int pattern) {
            return longestBeginning(need(pattern).substring(1));
        }

        int overlap(int first, int second) {
            String before = need(first);
            String after = need(second);
            int longest = 0;
            for (int size = 1; size < before.length() && size < after.length(); size++) {
                if (after.startsWith(before.substring(before.length() - size))) {
                    longest = size;
                }
            }
            return longest;
        }

        int feed(char letter) {
            needLetter(letter);
            if (stream.length() == 200) {
                throw new IllegalStateException();
            }
            stream += letter;
            told += endings().size();
            return endings().size();
        }

        int feedPattern(int pattern) {
            String all = need(pattern);
            if (stream.length() + all.length() > 200) {
                throw new IllegalStateException();
            }
            int ended = 0;
            for (char letter : all.toCharArray()) {
                ended += feed(letter);
            }
            return ended;
        }

        int clear() {
            int before = stream.length();
            stream = "";
            told = 0;
            return before;
        }

        int depth() {
            return longestBeginning(stream);
        }

        List<Integer> endings() {
            List<Integer> found = new ArrayList<>();
            for (int number : letters.keySet()) {
                if (stream.endsWith(letters.get(number))) {
                    found.add(number);
                }
            }
            found.sort((one, other) -> letters.get(other).length() - letters.get(one).length());
            return found;
        }

        int occurrences() {
            int count = 0;
            for (int number : letters.keySet()) {
                count += places(number).size();
            }
            return count;
        }

        List<Integer> places(int pattern) {
            String all = need(pattern);
            List<Integer> found = new ArrayList<>();
            for (int place = stream.indexOf(all); place >= 0; place = stream.indexOf(all, place + 1)) {
                found.add(place);
            }
            return found;
        }

        int covered() {
            Set<Integer> under = new HashSet<>();
            for (int[] each : all()) {
                for (int place = each[0]; place < each[2]; place++) {
                    under.add(place);
                }
            }
            return under.size();
        }

        int mostApart() {
            int[] most = new int[stream.length() + 1];
            for (int end = 1; end < most.length; end++) {
                most[end] = most[end - 1];
                for (int[] each : all()) {
                    if (each[2] == end) {
                        most[end] = Math.max(most[end], most[each[0]] + 1);
                    }
                }
            }
            return most[stream.length()];
        }

        /** Place, number and end of each occurrence. */
        private List<int[]> all() {
            List<int[]> found = new ArrayList<>();
            for (int number : letters.keySet()) {
                for (int place : places(number)) {
                    found.add(new int[] {place, number, place + letters.get(number).length()});
                }
            }
            return found;
        }

        List<int[]> chosen(int rule) {
            if (rule < 0 || rule > 2) {
                throw new IllegalArgumentException();
            }
            List<int[]> found = new ArrayList<>();
            List<int[]> left = all();
            int free = 0;
            while (true) {
                int from = free;
                left.removeIf(each -> each[0] < from);
                if (left.isEmpty()) {
                    return found;
                }
                left.sort((one, other) -> before(rule, one, other));
                found.add(left.get(0));
                free = left.get(0)[2];
            }
        }

        private static int before(int rule, int[] one, int[] other) {
            if (rule == 2) {
                return one[2] != other[2] ? one[2] - other[2] : one[0] - other[0];
            }
            if (one[0] != other[0]) {
                return one[0] - other[0];
            }
            return rule == 0 ? other[2] - one[2] : one[1] - other[1];
        }

        String replaced(int rule) {
            return replacedBefore(rule, stream.length());
        }

        private String replacedBefore(int rule, int stop) {
            StringBuilder text = new StringBuilder();
            int place = 0;
            for (int[] each : chosen(rule)) {
                if (each[2] <= stop) {
                    text.append(stream, place, each[0]).append(replacements.get(each[1]));
                    place = each[2];
                }
            }
            return text.append(stream, place, stop).toString();
        }

        int certain() {
            int place = 0;
            while (place < stream.length() && !mayGrow(stream.substring(place))) {
                int step = 1;
                for (String each : letters.values()) {
                    if (stream.startsWith(each, place)) {
                        step = Math.max(step, each.length());
                    }
                }
                place += step;
            }
            return replacedBefore(0, place).length();
        }

        private boolean mayGrow(String rest) {
            for (String each : letters.values()) {
                if (each.length() > rest.length() && each.startsWith(rest)) {
                    return true;
                }
            }
            return false;
        }

        private int longestBeginning(String text) {
            for (int from = 0; from < text.length(); from++) {
                if (beginnings().contains(text.substring(from))) {
                    return text.length() - from;
                }
            }
            return 0;
        }

        String need(int pattern) {
            if (!letters.containsKey(pattern)) {
                throw new NoSuchElementException();
            }
            return letters.get(pattern);
        }

        <T> T at(List<T> list, int index) {
            if (index < 0 || index >= list.size()) {
                throw new IndexOutOfBoundsException();
            }
            return list.get(index);
        }

        char letter(String text, int index) {
            if (index < 0 || index >= text.length()) {
                throw new IndexOutOfBoundsException();
            }
            return text.charAt(index);
        }

        private static void needLetter(char letter) {
            if (letter < 'a' || letter > 'z') {
                throw new IllegalArgumentException();
            }
        }
    }
}
