import java.util.ArrayList;
import java.util.Arrays;
import java.util.Collections;
import java.util.Comparator;
import java.util.HashSet;
import java.util.List;
import java.util.NoSuchElementException;
import java.util.Set;

/** The document once more, told by the Java library's lists, which share no code with the class. */
final class Model {
    final List<List<Integer>> texts = new ArrayList<>();
    final List<List<Integer>> phrases = new ArrayList<>();
    final int[] ranks = new int[100];

    Model() {
        for (int i = 0; i < 4; i++) {
            texts.add(new ArrayList<>());
        }
        phrases.add(new ArrayList<>());
        phrases.add(new ArrayList<>());
    }

    private static void index(boolean isThere) {
        if (!isThere) {
            throw new IndexOutOfBoundsException();
        }
    }

    private static void argument(boolean isInRange) {
        if (!isInRange) {
            throw new IllegalArgumentException();
        }
    }

    private static void state(boolean isFit) {
        if (!isFit) {
            throw new IllegalStateException();
        }
    }

    private List<Integer> text(int text) {
        return texts.get(java.util.Objects.checkIndex(text, 4));
    }

    private static void word(int word) {
        java.util.Objects.checkIndex(word, 100);
    }

    private List<Integer> part(int text, int from, int to) {
        java.util.Objects.checkFromToIndex(from, to, text(text).size());
        return text(text).subList(from, to);
    }

    private Comparator<Integer> order(int order) {
        argument(order == 0 || order == 1);
        return order == 0 ? Comparator.naturalOrder() : Comparator.comparing(word -> ranks[word]);
    }

    private static boolean isInOrder(List<Integer> words, Comparator<Integer> order) {
        List<Integer> sorted = new ArrayList<>(words);
        sorted.sort(order);
        return sorted.equals(words);
    }

    private int append(List<Integer> words, List<Integer> more, int most) {
        state((long) words.size() + more.size() <= most);
        words.addAll(more);
        return words.size();
    }

    /** What the call answers, a boolean as 1 or 0. */
    Number ask(String call, int[] p) {
        switch (call) {
            case "add": case "addMany": case "scatter": case "insert": case "set": case "remove": case "cut":
            case "setRank": case "say": case "quote": case "hush": case "replaceWord": case "replace":
                return change(call, p);
            case "sort": case "turn": case "move": case "swap": case "fill": case "copy":
                return arrange(call, p);
            case "find": case "findLast": case "findIn": case "count": case "near": case "stands": case "search":
                return look(call, p);
            default:
                return tell(call, p);
        }
    }

    private Number change(String call, int[] p) {
        switch (call) {
            case "add":
                text(p[0]);
                word(p[1]);
                return append(text(p[0]), List.of(p[1]), 60);
            case "addMany":
                text(p[0]);
                word(p[1]);
                argument(p[2] >= 0);
                return append(text(p[0]), Collections.nCopies(p[2], p[1]), 60);
            case "scatter":
                return scatter(text(p[0]), p[1], p[2], p[3]);
            case "insert":
                java.util.Objects.checkIndex(p[1], text(p[0]).size() + 1);
                word(p[2]);
                state(text(p[0]).size() < 60);
                text(p[0]).add(p[1], p[2]);
                return text(p[0]).size();
            case "set":
                text(p[0]).get(p[1]);
                word(p[2]);
                return text(p[0]).set(p[1], p[2]);
            case "remove":
                return text(p[0]).remove(p[1]);
            case "cut":
                part(p[0], p[1], p[2]).clear();
                return text(p[0]).size();
            case "setRank":
                word(p[0]);
                argument(p[1] >= -9 && p[1] <= 9);
                int before = ranks[p[0]];
                ranks[p[0]] = p[1];
                return before;
            case "say":
                phrases.get(p[0]);
                word(p[1]);
                return append(phrases.get(p[0]), List.of(p[1]), 12);
            case "quote":
                phrases.get(p[0]);
                List<Integer> quoted = new ArrayList<>(part(p[1], p[2], p[3]));
                state(quoted.size() <= 12);
                phrases.set(p[0], quoted);
                return quoted.size();
            case "hush":
                return phrases.set(p[0], new ArrayList<>()).size();
            case "replace":
                return replace(p[0]);
            default:
                word(p[1]);
                word(p[2]);
                return Collections.replaceAll(text(p[0]), p[1], p[2]) ? 1 : 0;
        }
    }

    private int scatter(List<Integer> words, int many, int range, int seed) {
        argument(many >= 0 && many <= 60 && range >= 1 && range <= 100 && seed >= 0);
        List<Integer> drawn = new ArrayList<>();
        long x = seed;
        for (int i = 0; i < many; i++) {
            x = Math.floorMod(x * 1103515245L + 12345L, 1L << 31);
            drawn.add((int) Math.floorMod(Math.floorDiv(x, 65536L), (long) range));
        }
        return append(words, drawn, 60);
    }

    private int replace(int text) {
        List<Integer> left = text(text);
        List<Integer> wanted = phrases.get(0);
        state(!wanted.isEmpty());
        List<Integer> made = new ArrayList<>();
        int times = 0;
        for (int where = Collections.indexOfSubList(left, wanted); where >= 0; where = Collections.indexOfSubList(left, wanted)) {
            made.addAll(left.subList(0, where));
            made.addAll(phrases.get(1));
            left = left.subList(where + wanted.size(), left.size());
            times++;
        }
        made.addAll(left);
        state(made.size() <= 60);
        texts.set(text, made);
        return times;
    }

    private Number arrange(String call, int[] p) {
        List<Integer> before = new ArrayList<>(text(p[0]));
        switch (call) {
            case "sort":
                Comparator<Integer> order = order(p[1]);
                text(p[0]).sort(p[2] == 1 ? order.reversed() : order);
                return differences(before, text(p[0]));
            case "turn":
                Collections.reverse(part(p[0], p[1], p[2]));
                return p[2] - p[1];
            case "move":
                Collections.rotate(part(p[0], p[1], p[2]), p[3]);
                return p[2] == p[1] ? 0 : (int) Math.floorMod((long) p[3], (long) (p[2] - p[1]));
            case "swap":
                text(p[0]).get(p[1]);
                text(p[0]).get(p[2]);
                Collections.swap(text(p[0]), p[1], p[2]);
                return before.get(p[2]);
            case "fill":
                part(p[0], p[1], p[2]);
                word(p[3]);
                Collections.fill(part(p[0], p[1], p[2]), p[3]);
                return differences(before, text(p[0]));
            default:
                state(text(p[1]).size() >= before.size());
                Collections.copy(text(p[1]), before);
                return text(p[1]).size();
        }
    }

    private static int differences(List<Integer> one, List<Integer> other) {
        int many = 0;
        for (int i = 0; i < one.size(); i++) {
            many += one.get(i).equals(other.get(i)) ? 0 : 1;
        }
        return many;
    }

    private Number look(String call, int[] p) {
        List<Integer> wanted = phrases.get(0);
        switch (call) {
            case "find":
                return Collections.indexOfSubList(text(p[0]), wanted);
            case "findLast":
                return Collections.lastIndexOfSubList(text(p[0]), wanted);
            case "findIn":
                int within = Collections.indexOfSubList(part(p[0], p[1], p[2]), wanted);
                return within < 0 ? -1 : within + p[1];
            case "count":
                return count(text(p[0]), wanted, p[1] == 1 ? Math.max(1, wanted.size()) : 1);
            case "near":
                return near(text(p[0]), p[1], p[2]);
            case "stands":
                return stands(p[0], p[1]);
            default:
                return search(text(p[0]), p[1], p[2]);
        }
    }

    private static int count(List<Integer> words, List<Integer> wanted, int step) {
        int times = 0;
        int from = 0;
        while (from <= words.size()) {
            int where = Collections.indexOfSubList(words.subList(from, words.size()), wanted);
            if (where < 0) {
                break;
            }
            times++;
            from += where + step;
        }
        return times;
    }

    private static int near(List<Integer> words, int place, int word) {
        words.get(place);
        word(word);
        for (int away = 0; away < 60; away++) {
            if (place - away >= 0 && words.get(place - away) == word) {
                return place - away;
            }
            if (place + away < words.size() && words.get(place + away) == word) {
                return place + away;
            }
        }
        return -1;
    }

    private int stands(int word, int which) {
        word(word);
        List<Integer> all = new ArrayList<>();
        for (int text = 0; text < 4; text++) {
            for (int place = 0; place < texts.get(text).size(); place++) {
                if (texts.get(text).get(place) == word) {
                    all.add(100 * text + place);
                }
            }
        }
        if (which < 0 || which >= all.size()) {
            throw new NoSuchElementException();
        }
        return all.get(which);
    }

    private int search(List<Integer> words, int order, int word) {
        word(word);
        Comparator<Integer> by = order(order);
        state(isInOrder(words, by));
        int where = Collections.binarySearch(words, word, by);
        return where >= 0 ? -2 : -where - 1;
    }

    private Number tell(String call, int[] p) {
        if (call.equals("refuses")) {
            argument(p[0] >= 0 && p[0] <= 4);
            return 1;
        }
        if (call.equals("wordOf")) {
            return phrases.get(p[0]).get(p[1]);
        }
        List<Integer> words = text(p[0]);
        switch (call) {
            case "size":
                return words.size();
            case "at":
                return words.get(p[1]);
            case "digest":
                int sum = 7;
                for (int word : words) {
                    sum = 31 * sum + word;
                }
                return sum;
            case "errors":
                return 0;
            case "frequency":
                word(p[1]);
                return Collections.frequency(words, p[1]);
            case "different":
                return new HashSet<>(words).size();
            case "share":
                word(p[1]);
                return words.isEmpty() ? 0.0f : (float) Collections.frequency(words, p[1]) / (float) words.size();
            case "meanWord":
                return words.isEmpty() ? 0.0 : (double) words.stream().mapToInt(word -> word).sum() / (double) words.size();
            case "isSorted":
                return isInOrder(words, order(p[1])) ? 1 : 0;
            default:
                return compare(call, words, p);
        }
    }

    private Number compare(String call, List<Integer> words, int[] p) {
        switch (call) {
            case "most":
                Set<Integer> all = new java.util.TreeSet<>(words);
                return Collections.max(all, Comparator.<Integer>comparingInt(word -> Collections.frequency(words, word))
                    .thenComparing(Comparator.reverseOrder()));
            case "greatest":
                Comparator<Integer> up = order(p[1]);
                int greatest = Collections.max(words, up);
                return p[1] == 0 ? greatest : ranks[greatest];
            case "least":
                Comparator<Integer> down = order(p[1]);
                int least = Collections.min(words, down);
                return p[1] == 0 ? least : ranks[least];
            case "isApart":
                return Collections.disjoint(words, text(p[1])) ? 1 : 0;
            case "alone":
                Set<Integer> own = new HashSet<>(words);
                own.removeAll(text(p[1]));
                return own.size();
            case "common":
                text(p[1]);
                argument(p[2] >= 0 && p[2] <= 2);
                return common(words, text(p[1]))[p[2]];
            default:
                throw new AssertionError("no such call: " + call + Arrays.toString(p));
        }
    }

    private static int[] common(List<Integer> words, List<Integer> other) {
        for (int many = words.size(); many > 0; many--) {
            for (int begin = 0; begin + many <= words.size(); begin++) {
                int where = Collections.indexOfSubList(other, words.subList(begin, begin + many));
                if (where >= 0) {
                    return new int[] {many, begin, where};
                }
            }
        }
        return new int[] {0, 0, 0};
    }
}
