import java.util.ArrayList;
import java.util.List;

/** Counts the answers that are not the due ones, and names them. */
final class Check {
    static final Class<IndexOutOfBoundsException> INDEX = IndexOutOfBoundsException.class;
    static final Class<IllegalArgumentException> ARGUMENT = IllegalArgumentException.class;
    static final Class<IllegalStateException> STATE = IllegalStateException.class;
    static final Class<java.util.NoSuchElementException> NO_ELEMENT = java.util.NoSuchElementException.class;

    private static final int MOST_TOLD = 50;
    private static int wrong = 0;
    private static int asked = 0;

    interface Call {
        Object on(WordConcordance x);
    }

    private Check() {
    }

    static void is(String what, Object got, Object due) {
        asked++;
        if (!due.equals(got)) {
            wrong++;
            if (wrong <= MOST_TOLD) {
                System.out.println(what + " is " + got + ", due is " + due);
            }
        }
    }

    /** The call, on a fresh sample, throws just this exception and changes nothing. */
    static void refused(String what, Class<? extends RuntimeException> due, Call call) {
        WordConcordance x = sample();
        String before = state(x);
        Object got = answer(x, call);
        is(what, got, due.getName());
        is(what + ": what stands after it", state(x), before);
    }

    /** What the call answers, or the name of the exception that it throws. */
    static Object answer(WordConcordance x, Call call) {
        try {
            return call.on(x);
        } catch (RuntimeException thrown) {
            return thrown.getClass().getName();
        }
    }

    /** A full text, a short one, an empty one and a sorted one, both phrases, and some ranks. */
    static WordConcordance sample() {
        WordConcordance x = new WordConcordance();
        x.scatter(0, 60, 100, 1);
        put(x, 1, 5, 7, 5, 3);
        put(x, 3, 1, 2, 2, 9);
        say(x, WordConcordance.WANTED, 5);
        say(x, WordConcordance.NEW, 9, 9, 9);
        x.setRank(5, 3);
        x.setRank(7, -2);
        x.setRank(2, -1);
        return x;
    }

    static WordConcordance of(int... words) {
        WordConcordance x = new WordConcordance();
        put(x, 0, words);
        return x;
    }

    static void put(WordConcordance x, int text, int... words) {
        for (int word : words) {
            x.add(text, word);
        }
    }

    static void say(WordConcordance x, int phrase, int... words) {
        x.hush(phrase);
        for (int word : words) {
            x.say(phrase, word);
        }
    }

    static String words(WordConcordance x, int text) {
        List<Integer> all = new ArrayList<>();
        for (int place = 0; place < x.size(text); place++) {
            all.add(x.at(text, place));
        }
        return all.toString();
    }

    static String phrase(WordConcordance x, int phrase) {
        List<Integer> all = new ArrayList<>();
        try {
            while (true) {
                all.add(x.wordOf(phrase, all.size()));
            }
        } catch (IndexOutOfBoundsException end) {
            return all.toString();
        }
    }

    static String state(WordConcordance x) {
        StringBuilder all = new StringBuilder();
        for (int text = 0; text < 4; text++) {
            all.append(x.size(text)).append(':').append(x.digest(text)).append(' ');
        }
        all.append(phrase(x, 0)).append(phrase(x, 1));
        for (int word : new int[] {0, 2, 5, 7, 99}) {
            int rank = x.setRank(word, 0);
            x.setRank(word, rank);
            all.append(' ').append(rank);
        }
        return all.toString();
    }

    static void end() {
        System.out.println(wrong == 0 ? asked + " answers as due" : wrong + " of " + asked + " answers are not as due");
        if (wrong != 0) {
            System.exit(1);
        }
    }
}
