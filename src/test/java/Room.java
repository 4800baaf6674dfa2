import java.util.ArrayList;
import java.util.List;

/** An object in some state, made anew each time that it is opened; and all that can be read of an object. */
interface Room {
    /** A new object. */
    Room EMPTY = WordConcordance::new;
    /** A full text, two short ones, of which the last one is sorted, and an empty one; two short phrases, some ranks. */
    Room SAMPLE = Room::sample;
    /** Four full texts, two full phrases, and ranks at both ends. */
    Room FULL = Room::full;

    /** One word in each text and in each phrase, and some ranks. */
    Room ONE = Room::ofOneEach;

    WordConcordance open();

    private static WordConcordance ofOneEach() {
        WordConcordance x = of(7);
        put(x, 1, 7);
        put(x, 2, 8);
        put(x, 3, 9);
        say(x, WordConcordance.WANTED, 7);
        say(x, WordConcordance.NEW, 8);
        x.setRank(7, 2);
        x.setRank(8, -2);
        return x;
    }

    private static WordConcordance sample() {
        WordConcordance x = new WordConcordance();
        x.scatter(0, 60, 100, 1);
        put(x, 1, 5, 7, 5, 3);
        put(x, 3, 1, 2, 2, 9);
        say(x, WordConcordance.WANTED, 5);
        say(x, WordConcordance.NEW, 9, 9, 9);
        x.setRank(5, 3);
        x.setRank(7, -2);
        x.setRank(2, -1);
        return x;
    }

    private static WordConcordance full() {
        WordConcordance x = new WordConcordance();
        for (int text = 0; text < 4; text++) {
            x.scatter(text, 60, 100, text);
        }
        x.quote(WordConcordance.WANTED, 0, 0, 12);
        x.quote(WordConcordance.NEW, 1, 48, 60);
        x.setRank(0, -9);
        x.setRank(50, -1);
        x.setRank(99, 9);
        return x;
    }

    /** A new object with these words in its text 0. */
    static WordConcordance of(int... words) {
        WordConcordance x = new WordConcordance();
        put(x, 0, words);
        return x;
    }

    /** A full text 0 of the words 0 to 59. */
    static WordConcordance counted() {
        WordConcordance x = new WordConcordance();
        for (int word = 0; word < 60; word++) {
            x.add(0, word);
        }
        return x;
    }

    /** The same word, this often, in text 0. */
    static WordConcordance ofMany(int word, int many) {
        WordConcordance x = new WordConcordance();
        x.addMany(0, word, many);
        return x;
    }

    static void put(WordConcordance x, int text, int... words) {
        for (int word : words) {
            x.add(text, word);
        }
    }

    static void say(WordConcordance x, int phrase, int... words) {
        x.hush(phrase);
        for (int word : words) {
            x.say(phrase, word);
        }
    }

    static String words(WordConcordance x, int text) {
        List<Object> all = new ArrayList<>();
        // One more than may stand there is asked for, so that a wrong size has an end, too.
        for (int i = 0; i < Math.min(x.size(text), 61); i++) {
            int place = i;
            all.add(Check.answer(x, z -> z.at(text, place)));
        }
        return all.toString();
    }

    static String phrase(WordConcordance x, int phrase) {
        List<Object> all = new ArrayList<>();
        for (int i = 0; i < 13; i++) {
            int place = i;
            Object word = Check.answer(x, z -> z.wordOf(phrase, place));
            if (!(word instanceof Integer)) {
                break;
            }
            all.add(word);
        }
        return all.toString();
    }

    /** The four texts, WANTED, NEW and the ranks. The object is used up by this, as ranks can be read only by setting them. */
    static List<String> state(WordConcordance x) {
        List<String> all = new ArrayList<>();
        for (int text = 0; text < 4; text++) {
            all.add(words(x, text));
        }
        for (int phrase = 0; phrase < 2; phrase++) {
            all.add(phrase(x, phrase) + x.hush(phrase));
        }
        StringBuilder ranks = new StringBuilder();
        for (int word = 0; word < 100; word++) {
            ranks.append(' ').append(x.setRank(word, 0));
        }
        all.add(ranks.toString());
        return all;
    }
}
