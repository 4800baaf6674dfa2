/** Promises 13 to 21: the two phrases, found, counted and put in place of each other. */
final class PhraseSentences extends Sentences {
    private static final String TAKES_PLACE =
        "Puts the NEW phrase in place of the WANTED one, each time that it is counted by count() with isApart.";

    private PhraseSentences() {
    }

    static void all() {
        say();
        quote();
        refusedQuote();
        hush();
        wordOf();
        find();
        findLast();
        findIn();
        count();
        countApart();
        replace();
        refusedReplace();
    }

    private static int[] row(int... words) {
        return words;
    }

    /** A text 0 of these words, and the WANTED phrase. */
    private static Room looking(int[] wanted, int... words) {
        return replacing(wanted, row(), words);
    }

    private static Room replacing(int[] wanted, int[] fresh, int... words) {
        return () -> {
            WordConcordance x = of(words);
            Room.say(x, WANTED, wanted);
            Room.say(x, NEW, fresh);
            return x;
        };
    }

    /** A full text of the words 0 to 59, and as WANTED phrase a part of it. */
    private static Room lookingInFull(int from, int to) {
        return () -> {
            WordConcordance x = Room.counted();
            x.quote(WANTED, 0, from, to);
            return x;
        };
    }

    private static void say() {
        changes(13);
        says("Puts a word behind all others of a phrase.", () -> {
            WordConcordance x = new WordConcordance();
            x.say(WANTED, 4);
            x.say(WANTED, 9);
            x.say(WANTED, 7);
            is("WANTED", phrase(x, WANTED), "[4, 9, 7]");
            is("NEW", phrase(x, NEW), "[]");
            x.say(NEW, 5);
            is("both", phrase(x, WANTED) + phrase(x, NEW), "[4, 9, 7][5]");
        });
        phraseNumber(ONE, (x, phrase) -> x.say(phrase, 5));
        word(ONE, (x, word) -> x.say(NEW, word));
        says("Returns how many words the phrase has then.", () -> {
            done(EMPTY, 1, WANTED_PART, x -> x.say(WANTED, 0));
            done(EMPTY, 1, NEW_PART, x -> x.say(NEW, 99));
            done(ONE, 2, NEW_PART, x -> x.say(NEW, 5));
            done(SAMPLE, 4, NEW_PART, x -> x.say(NEW, 5));
            done(lookingInFull(0, 11), 12, WANTED_PART, x -> x.say(WANTED, 5));
            WordConcordance x = new WordConcordance();
            for (int word = 1; word <= 12; word++) {
                is("word " + word, x.say(NEW, word), word);
            }
            is("the first word of the other one", x.say(WANTED, 0), 1);
        });
        says("Throws IndexOutOfBoundsException if there is no such phrase or word", () -> {
            refused(INDEX, SAMPLE, x -> x.say(2, 0));
            refused(INDEX, SAMPLE, x -> x.say(-1, 0));
            refused(INDEX, SAMPLE, x -> x.say(WANTED, 100));
            refused(INDEX, SAMPLE, x -> x.say(NEW, -1));
        });
        says("Throws IllegalStateException if it has 12 words", () -> {
            Room onlyNew = () -> {
                WordConcordance x = Room.counted();
                x.quote(NEW, 0, 0, 12);
                return x;
            };
            refused(STATE, onlyNew, x -> x.say(NEW, 5));
            taken(onlyNew, x -> x.say(WANTED, 5));
            refused(STATE, FULL, x -> x.say(WANTED, 0));
            refused(STATE, FULL, x -> x.say(NEW, 99));
            taken(lookingInFull(0, 10), x -> x.say(WANTED, 5));
            taken(lookingInFull(0, 11), x -> x.say(WANTED, 5));
            refused(STATE, lookingInFull(0, 12), x -> x.say(WANTED, 5));
            taken(lookingInFull(0, 12), x -> x.say(NEW, 5));
        });
    }

    private static void quote() {
        changes(14);
        says("Makes a part of a text a phrase.", () -> {
            WordConcordance x = of(1, 2, 3, 4, 5);
            x.quote(WANTED, 0, 1, 4);
            is("WANTED", phrase(x, WANTED) + phrase(x, NEW), "[2, 3, 4][]");
            x.quote(NEW, 0, 4, 5);
            is("NEW", phrase(x, WANTED) + phrase(x, NEW), "[2, 3, 4][5]");
            x.quote(WANTED, 0, 0, 2);
            is("in place of what it was", phrase(x, WANTED), "[1, 2]");
            x.quote(WANTED, 0, 5, 5);
            is("no words", phrase(x, WANTED), "[]");
            x.set(0, 4, 50);
            is("after the text is changed", phrase(x, NEW), "[5]");
            is("the text", words(x, 0), "[1, 2, 3, 4, 50]");
        });
        says("phrase: WANTED or NEW", () -> numbers(SAMPLE, WANTED, NEW, (x, phrase) -> x.quote(phrase, 1, 0, 2)));
        text(SAMPLE, (x, text) -> x.quote(WANTED, text, 0, 0));
        part((x, text, from, to) -> x.quote(NEW, text, from, to));
        says("Returns how many words the phrase has then.", () -> {
            done(ONE, 1, WANTED_PART, x -> x.quote(WANTED, 3, 0, 1));
            done(ONE, 0, NEW_PART, x -> x.quote(NEW, 0, 1, 1));
            told(EMPTY, 0, x -> x.quote(NEW, 0, 0, 0));
            done(Room::counted, 12, NEW_PART, x -> x.quote(NEW, 0, 48, 60));
            done(FULL, 12, NEW_PART, x -> x.quote(NEW, 0, 0, 12));
            done(FULL, 0, WANTED_PART, x -> x.quote(WANTED, 2, 60, 60));
            WordConcordance x = Room.FULL.open();
            is("twelve words", x.quote(NEW, 0, 0, 12), 12);
            is("one word", x.quote(NEW, 0, 59, 60), 1);
            is("no words", x.quote(NEW, 0, 60, 60), 0);
            is("the other phrase", x.quote(WANTED, 0, 49, 60), 11);
        });
    }

    private static void refusedQuote() {
        says("Throws IndexOutOfBoundsException if there is no such phrase, text or part", () -> {
            refused(INDEX, SAMPLE, x -> x.quote(2, 1, 0, 1));
            refused(INDEX, SAMPLE, x -> x.quote(-1, 1, 0, 1));
            refused(INDEX, SAMPLE, x -> x.quote(WANTED, 4, 0, 0));
            refused(INDEX, SAMPLE, x -> x.quote(WANTED, -1, 0, 0));
            noParts((x, text, from, to) -> x.quote(WANTED, text, from, to));
        });
        says("Throws IllegalStateException if the part has more than 12 words", () -> {
            refused(STATE, Room::counted, x -> x.quote(WANTED, 0, 0, 13));
            refused(STATE, Room::counted, x -> x.quote(NEW, 0, 47, 60));
            taken(FULL, x -> x.quote(WANTED, 0, 0, 12));
            refused(STATE, FULL, x -> x.quote(WANTED, 0, 0, 13));
            taken(FULL, x -> x.quote(NEW, 3, 48, 60));
            refused(STATE, FULL, x -> x.quote(NEW, 3, 47, 60));
            refused(STATE, SAMPLE, x -> x.quote(NEW, 0, 0, 60));
            refused(STATE, SAMPLE, x -> x.quote(WANTED, 0, 20, 33));
        });
    }

    private static void hush() {
        changes(15);
        says("Removes all words from a phrase.", () -> {
            WordConcordance x = Room.FULL.open();
            String other = phrase(x, NEW);
            x.hush(WANTED);
            is("WANTED", phrase(x, WANTED), "[]");
            is("NEW", phrase(x, NEW), other);
            x.say(WANTED, 8);
            is("what is said then", phrase(x, WANTED), "[8]");
            x.hush(NEW);
            is("both", phrase(x, WANTED) + phrase(x, NEW), "[8][]");
        });
        phraseNumber(ONE, (x, phrase) -> x.hush(phrase));
        says("Returns how many there were.", () -> {
            done(ONE, 1, WANTED_PART, x -> x.hush(WANTED));
            done(ONE, 1, NEW_PART, x -> x.hush(NEW));
            done(SAMPLE, 3, NEW_PART, x -> x.hush(NEW));
            done(FULL, 12, WANTED_PART, x -> x.hush(WANTED));
            told(EMPTY, 0, x -> x.hush(WANTED));
            told(EMPTY, 0, x -> x.hush(NEW));
            WordConcordance x = Room.FULL.open();
            is("twelve words", x.hush(WANTED), 12);
            is("no words", x.hush(WANTED), 0);
            x.say(WANTED, 3);
            is("one word", x.hush(WANTED), 1);
            is("the other one", x.hush(NEW), 12);
        });
        says("Throws IndexOutOfBoundsException if there is no such phrase", () -> {
            refused(INDEX, SAMPLE, x -> x.hush(2));
            refused(INDEX, SAMPLE, x -> x.hush(-1));
        });
    }

    private static void wordOf() {
        asks(16);
        Room room = replacing(row(4, 6, 0), row(99));
        says("Returns a word of a phrase.", () -> {
            told(room, 4, x -> x.wordOf(WANTED, 0));
            told(room, 6, x -> x.wordOf(WANTED, 1));
            told(room, 99, x -> x.wordOf(NEW, 0));
            kept(SAMPLE, x -> x.wordOf(WANTED, 0));
            kept(ONE, x -> x.wordOf(NEW, 0));
            kept(FULL, x -> x.wordOf(NEW, 11));
            kept(replacing(row(), row(4), 4), x -> x.wordOf(NEW, 0));
        });
        phraseNumber(FULL, (x, phrase) -> x.wordOf(phrase, 0));
        says("place: its place in the phrase", () -> {
            limits(INDEX, room, 0, 2, (x, place) -> x.wordOf(WANTED, place));
            limits(INDEX, room, 0, 0, (x, place) -> x.wordOf(NEW, place));
            limits(INDEX, FULL, 0, 11, (x, place) -> x.wordOf(WANTED, place));
            limits(INDEX, FULL, 0, 11, (x, place) -> x.wordOf(NEW, place));
            never(INDEX, EMPTY, (x, place) -> x.wordOf(WANTED, place));
            never(INDEX, EMPTY, (x, place) -> x.wordOf(NEW, place));
        });
        says("Returns the word.", () -> {
            told(ONE, 7, x -> x.wordOf(WANTED, 0));
            told(ONE, 8, x -> x.wordOf(NEW, 0));
            told(room, 0, x -> x.wordOf(WANTED, 2));
            told(lookingInFull(48, 60), 48, x -> x.wordOf(WANTED, 0));
            told(lookingInFull(48, 60), 59, x -> x.wordOf(WANTED, 11));
        });
        says("Throws IndexOutOfBoundsException if there is no such phrase or place", () -> {
            refused(INDEX, SAMPLE, x -> x.wordOf(2, 0));
            refused(INDEX, SAMPLE, x -> x.wordOf(-1, 0));
            refused(INDEX, SAMPLE, x -> x.wordOf(NEW, 3));
            refused(INDEX, SAMPLE, x -> x.wordOf(WANTED, 1));
            refused(INDEX, SAMPLE, x -> x.wordOf(WANTED, -1));
            WordConcordance hushed = Room.FULL.open();
            hushed.hush(WANTED);
            is("a place that is no more", Check.answer(hushed, x -> x.wordOf(WANTED, 0)), INDEX.getName());
        });
    }

    private static void find() {
        asks(17);
        says("Finds the WANTED phrase in a text.", () -> {
            told(looking(row(1, 2), 1, 1, 2, 1, 2), 1, x -> x.find(0));
            told(replacing(row(3), row(1), 1, 2, 3), 2, x -> x.find(0));
            told(looking(row(1, 2), 1, 2), -1, x -> x.find(1));
        });
        text(FULL, (x, text) -> x.find(text));
        says("Returns the first place at which it stands; NONE if there is none.", () -> {
            told(ONE, 0, x -> x.find(0));
            told(ONE, -1, x -> x.find(2));
            told(FULL, 0, x -> x.find(0));
            told(FULL, -1, x -> x.find(3));
            told(looking(row(1), 1, 1), 0, x -> x.find(0));
            told(looking(row(8, 9), 1, 8, 8, 9), 2, x -> x.find(0));
            told(looking(row(8, 9), 8, 9), 0, x -> x.find(0));
            told(looking(row(8, 9), 9, 8), -1, x -> x.find(0));
            told(looking(row(8, 9), 9, 8, 8), -1, x -> x.find(0));
            told(looking(row(8, 9, 9), 8, 9), -1, x -> x.find(0));
            told(looking(row(), 8, 9), 0, x -> x.find(0));
            told(looking(row()), 0, x -> x.find(0));
            told(looking(row(3)), -1, x -> x.find(0));
            told(lookingInFull(48, 60), 48, x -> x.find(0));
            told(lookingInFull(59, 60), 59, x -> x.find(0));
            told(lookingInFull(60, 60), 0, x -> x.find(0));
            WordConcordance x = looking(row(5, 6), 4, 5, 6).open();
            x.cut(0, 2, 3);
            is("what is half cut off", x.find(0), -1);
            x.cut(0, 1, 2);
            is("what is cut off", x.find(0), -1);
        });
        says("Throws IndexOutOfBoundsException if there is no such text", () -> {
            refused(INDEX, SAMPLE, x -> x.find(4));
            refused(INDEX, SAMPLE, x -> x.find(-1));
        });
    }

    private static void findLast() {
        asks(18);
        says("Finds the WANTED phrase in a text, from its end.", () -> {
            told(looking(row(1, 2), 1, 2, 1, 2, 1), 2, x -> x.findLast(0));
            told(replacing(row(3), row(1), 3, 2, 1), 0, x -> x.findLast(0));
            told(looking(row(1, 2), 1, 2), -1, x -> x.findLast(1));
        });
        text(FULL, (x, text) -> x.findLast(text));
        says("Returns the last place at which it stands; NONE if there is none.", () -> {
            told(ONE, 0, x -> x.findLast(0));
            told(ONE, -1, x -> x.findLast(2));
            told(FULL, 0, x -> x.findLast(0));
            told(FULL, -1, x -> x.findLast(3));
            told(looking(row(1), 1, 1), 1, x -> x.findLast(0));
            told(looking(row(8, 9), 8, 9, 8), 0, x -> x.findLast(0));
            told(looking(row(1, 2, 1), 1, 2, 1, 2, 1), 2, x -> x.findLast(0));
            told(looking(row(8, 9), 9, 8), -1, x -> x.findLast(0));
            told(looking(row(8, 9, 9), 8, 9), -1, x -> x.findLast(0));
            told(looking(row(), 8, 9), 2, x -> x.findLast(0));
            told(looking(row()), 0, x -> x.findLast(0));
            told(looking(row(3)), -1, x -> x.findLast(0));
            told(lookingInFull(48, 60), 48, x -> x.findLast(0));
            told(lookingInFull(0, 12), 0, x -> x.findLast(0));
            told(lookingInFull(60, 60), 60, x -> x.findLast(0));
            WordConcordance x = looking(row(6), 6, 5, 6).open();
            x.cut(0, 2, 3);
            is("what is cut off", x.findLast(0), 0);
        });
        says("Throws IndexOutOfBoundsException if there is no such text", () -> {
            refused(INDEX, SAMPLE, x -> x.findLast(4));
            refused(INDEX, SAMPLE, x -> x.findLast(-1));
        });
    }

    private static void findIn() {
        asks(19);
        Room room = looking(row(1, 2), 1, 2, 1, 2, 1);
        says("Finds the WANTED phrase in a part of a text.", () -> {
            told(room, 0, x -> x.findIn(0, 0, 5));
            told(room, 2, x -> x.findIn(0, 1, 5));
            told(replacing(row(3), row(1), 1, 2, 3), 2, x -> x.findIn(0, 0, 3));
            told(room, -1, x -> x.findIn(1, 0, 0));
        });
        text(FULL, (x, text) -> x.findIn(text, 0, 60));
        part((x, text, from, to) -> x.findIn(text, from, to));
        says("Returns the first place of the text at which it stands within the part, with all of its words; NONE if there is none.",
            () -> {
            told(room, 2, x -> x.findIn(0, 2, 4));
            told(room, -1, x -> x.findIn(0, 1, 3));
            told(room, -1, x -> x.findIn(0, 3, 5));
            told(room, -1, x -> x.findIn(0, 2, 3));
            told(room, 2, x -> x.findIn(0, 1, 4));
            told(room, -1, x -> x.findIn(0, 0, 0));
            told(room, -1, x -> x.findIn(0, 5, 5));
            told(room, -1, x -> x.findIn(0, 4, 5));
            told(looking(row(), 1, 2, 3), 1, x -> x.findIn(0, 1, 3));
            told(looking(row(), 1, 2, 3), 2, x -> x.findIn(0, 2, 2));
            told(looking(row(), 1, 2, 3), 3, x -> x.findIn(0, 3, 3));
            told(looking(row()), 0, x -> x.findIn(0, 0, 0));
            told(lookingInFull(48, 60), 48, x -> x.findIn(0, 48, 60));
            told(lookingInFull(48, 60), -1, x -> x.findIn(0, 49, 60));
            told(lookingInFull(48, 60), -1, x -> x.findIn(0, 0, 59));
            told(ONE, 0, x -> x.findIn(0, 0, 1));
            told(ONE, -1, x -> x.findIn(0, 1, 1));
            told(ONE, -1, x -> x.findIn(0, 0, 0));
            told(FULL, 0, x -> x.findIn(0, 0, 12));
            told(FULL, -1, x -> x.findIn(0, 0, 11));
            told(lookingInFull(60, 60), 60, x -> x.findIn(0, 60, 60));
        });
        says("Throws IndexOutOfBoundsException if there is no such text or part", () -> {
            refused(INDEX, SAMPLE, x -> x.findIn(4, 0, 0));
            refused(INDEX, SAMPLE, x -> x.findIn(-1, 0, 0));
            noParts((x, text, from, to) -> x.findIn(text, from, to));
        });
    }

    private static void count() {
        asks(20);
        says("Counts how often the WANTED phrase stands in a text.", () -> {
            told(looking(row(1, 2), 1, 2, 1, 2, 1), 2, x -> x.count(0, false));
            told(looking(row(1, 2), 1, 2, 1, 2, 1), 2, x -> x.count(0, true));
            told(replacing(row(3), row(1), 3, 1, 1, 3), 2, x -> x.count(0, true));
            told(looking(row(1, 2), 1, 2), 0, x -> x.count(1, false));
        });
        text(FULL, (x, text) -> x.count(text, true));
        says("Returns how often.", () -> {
            told(ONE, 1, x -> x.count(0, true));
            told(ONE, 1, x -> x.count(1, false));
            told(ONE, 0, x -> x.count(2, true));
            told(ONE, 0, x -> x.count(3, false));
            told(FULL, 1, x -> x.count(0, true));
            told(FULL, 0, x -> x.count(3, false));
            told(looking(row(3)), 0, x -> x.count(0, false));
            told(looking(row(3)), 0, x -> x.count(0, true));
            told(looking(row(3, 4, 5), 3, 4), 0, x -> x.count(0, false));
            told(looking(row(3, 4, 5), 3, 4), 0, x -> x.count(0, true));
            told(looking(row(3, 4), 3, 4), 1, x -> x.count(0, false));
            told(looking(row(3, 4), 3, 4), 1, x -> x.count(0, true));
            told(looking(row(), 8, 9), 3, x -> x.count(0, false));
            told(looking(row()), 1, x -> x.count(0, false));
            told(lookingInFull(60, 60), 61, x -> x.count(0, false));
            told(lookingInFull(48, 60), 1, x -> x.count(0, false));
            told(lookingInFull(48, 60), 1, x -> x.count(0, true));
        });
        says("Throws IndexOutOfBoundsException if there is no such text", () -> {
            refused(INDEX, SAMPLE, x -> x.count(4, true));
            refused(INDEX, SAMPLE, x -> x.count(-1, true));
            refused(INDEX, SAMPLE, x -> x.count(4, false));
            refused(INDEX, SAMPLE, x -> x.count(-1, false));
        });
    }

    private static void countApart() {
        says("isApart: true to count, from the front on, only those that begin behind the one that was counted before "
            + "(with no words: behind its place); false for all places", () -> {
            Room alike = looking(row(3, 3), 3, 3, 3, 3, 3, 1, 3, 3);
            told(alike, 5, x -> x.count(0, false));
            told(alike, 3, x -> x.count(0, true));
            Room overlapping = looking(row(1, 2, 1), 1, 2, 1, 2, 1, 2, 1);
            told(overlapping, 3, x -> x.count(0, false));
            told(overlapping, 2, x -> x.count(0, true));
            told(looking(row(1, 2, 1), 0, 1, 2, 1, 2, 1), 1, x -> x.count(0, true));
            told(looking(row(1, 1, 2), 1, 1, 1, 2, 1, 1, 2), 2, x -> x.count(0, true));
            told(looking(row(), 8, 9), 3, x -> x.count(0, true));
            told(looking(row()), 1, x -> x.count(0, true));
            told(lookingInFull(60, 60), 61, x -> x.count(0, true));
            Room full = () -> {
                WordConcordance x = Room.ofMany(7, 60);
                x.quote(WANTED, 0, 0, 12);
                return x;
            };
            told(full, 49, x -> x.count(0, false));
            told(full, 5, x -> x.count(0, true));
        });
    }

    private static String replaced(int[] wanted, int[] fresh, int... words) {
        WordConcordance x = replacing(wanted, fresh, words).open();
        x.replace(0);
        is("the phrases", phrase(x, WANTED) + phrase(x, NEW), java.util.Arrays.toString(wanted) + java.util.Arrays.toString(fresh));
        return words(x, 0);
    }

    private static void replace() {
        changes(21);
        says(TAKES_PLACE, () -> {
            is("by less", replaced(row(1, 2), row(9), 1, 2, 3, 1, 2), "[9, 3, 9]");
            is("by more", replaced(row(1), row(9, 8), 0, 1, 1, 7), "[0, 9, 8, 9, 8, 7]");
            is("by as many", replaced(row(1, 2), row(2, 1), 1, 2, 2, 1, 2), "[2, 1, 2, 2, 1]");
            is("by nothing", replaced(row(3, 3), row(), 3, 3, 3, 3, 3), "[3]");
            is("all by nothing", replaced(row(3, 3), row(), 3, 3, 3, 3), "[]");
            is("apart", replaced(row(1, 2, 1), row(5), 1, 2, 1, 2, 1), "[5, 2, 1]");
            is("none", replaced(row(4), row(5, 5), 1, 2, 1), "[1, 2, 1]");
            is("half of it at the end", replaced(row(1, 2), row(5), 1, 2, 1), "[5, 1]");
            is("once only", replaced(row(3), row(3, 3), 3, 3), "[3, 3, 3, 3]");
            is("not what is made anew", replaced(row(1, 2), row(1), 1, 2, 2), "[1, 2]");
            is("nothing in no words", replaced(row(1), row(2)), "[]");
        });
        says(TAKES_PLACE, () -> {
            WordConcordance x = replacing(row(1), row(2, 1), 1, 5, 1).open();
            x.replace(0);
            x.replace(0);
            is("once more", words(x, 0), "[2, 2, 1, 5, 2, 2, 1]");
            x.sort(0, BY_NUMBER, false);
            x.replace(0);
            is("after the text is sorted", words(x, 0), "[2, 1, 2, 1, 2, 2, 2, 2, 5]");
            x.cut(0, 1, 9);
            Room.say(x, WANTED, 2, 1);
            x.replace(0);
            is("half of it before what is cut off", words(x, 0), "[2]");
        });
        says(TAKES_PLACE, () -> {
            WordConcordance x = Room.ofMany(7, 60);
            x.set(0, 0, 6);
            Room.say(x, WANTED, 7, 7);
            Room.say(x, NEW, 8, 8);
            x.replace(0);
            is("half of it at the end of a full text", x.size(0) + " " + x.at(0, 0) + " " + x.at(0, 1) + " " + x.at(0, 58) + " "
                + x.at(0, 59), "60 6 8 8 7");
            Room.say(x, WANTED, 8, 7);
            Room.say(x, NEW, 7, 8);
            x.replace(0);
            is("all of it at the end of a full text", x.size(0) + " " + x.at(0, 57) + " " + x.at(0, 58) + " " + x.at(0, 59), "60 8 7 8");
        });
        text(FULL, (x, text) -> x.replace(text));
        says("Returns how often.", () -> {
            done(ONE, 1, 0, x -> x.replace(0));
            done(ONE, 1, 1, x -> x.replace(1));
            told(ONE, 0, x -> x.replace(2));
            done(FULL, 1, 0, x -> x.replace(0));
            told(FULL, 0, x -> x.replace(3));
            done(doubling(30), 30, 0, x -> x.replace(0));
            done(replacing(row(4), row(), 4), 1, 0, x -> x.replace(0));
            is("twice", replacing(row(1, 2), row(9), 1, 2, 3, 1, 2).open().replace(0), 2);
            is("apart", replacing(row(3, 3), row(9), 3, 3, 3, 3, 3).open().replace(0), 2);
            told(replacing(row(4), row(9), 1, 2), 0, x -> x.replace(0));
            told(replacing(row(4), row(9)), 0, x -> x.replace(0));
            told(replacing(row(4), row(4), 4, 4), 2, x -> x.replace(0));
            WordConcordance x = Room.ofMany(7, 60);
            x.say(WANTED, 7);
            is("a full text", x.replace(0) + " " + x.size(0), "60 0");
        });
    }

    private static void refusedReplace() {
        says("Throws IndexOutOfBoundsException if there is no such text", () -> {
            refused(INDEX, SAMPLE, x -> x.replace(4));
            refused(INDEX, SAMPLE, x -> x.replace(-1));
        });
        String state = "Throws IllegalStateException if the WANTED phrase has no words, or the text would have more than 60 words";
        says(state, () -> {
            refused(STATE, EMPTY, x -> x.replace(0));
            refused(STATE, replacing(row(), row(5), 1, 2, 3), x -> x.replace(0));
            refused(STATE, replacing(row(), row(), 1, 2, 3), x -> x.replace(0));
            Room hushed = () -> {
                WordConcordance x = SAMPLE.open();
                x.hush(WANTED);
                return x;
            };
            refused(STATE, hushed, x -> x.replace(0));
            refused(STATE, hushed, x -> x.replace(1));
            refused(STATE, hushed, x -> x.replace(2));
            refused(STATE, replacing(row(), row(5), 1, 2, 3), x -> x.replace(1));
        });
        says(state, () -> {
            taken(growing(58, 2), x -> x.replace(0));
            taken(growing(59, 1), x -> x.replace(0));
            refused(STATE, growing(58, 3), x -> x.replace(0));
            refused(STATE, growing(59, 2), x -> x.replace(0));
            refused(STATE, growing(49, 12), x -> x.replace(0));
            taken(growing(48, 12), x -> x.replace(0));
            Room longer = () -> {
                WordConcordance x = FULL.open();
                x.quote(WANTED, 0, 0, 11);
                return x;
            };
            refused(STATE, longer, x -> x.replace(0));
            taken(longer, x -> x.replace(3));
            taken(growing(59, 0), x -> x.replace(0));
        });
        says(state, () -> {
            taken(doubling(30), x -> x.replace(0));
            refused(STATE, doubling(31), x -> x.replace(0));
            refused(STATE, doubling(60), x -> x.replace(0));
            WordConcordance x = doubling(30).open();
            x.replace(0);
            is("up to the last place", x.size(0) + " " + x.at(0, 58) + " " + x.at(0, 59), "60 4 5");
            Room full = () -> {
                WordConcordance y = Room.ofMany(7, 60);
                y.quote(NEW, 0, 0, 12);
                y.say(WANTED, 8);
                return y;
            };
            told(full, 0, y -> y.replace(0));
        });
    }

    /** A text of some words and the WANTED one, for which so many stand in the NEW phrase. */
    private static Room growing(int some, int many) {
        return () -> {
            WordConcordance x = Room.ofMany(1, some);
            x.add(0, 2);
            x.say(WANTED, 2);
            for (int i = 0; i < many; i++) {
                x.say(NEW, 3 + i);
            }
            return x;
        };
    }

    /** A text of just the WANTED word, in place of which two come. */
    private static Room doubling(int many) {
        return () -> {
            WordConcordance x = Room.ofMany(4, many);
            Room.say(x, WANTED, 4);
            Room.say(x, NEW, 4, 5);
            return x;
        };
    }
}
