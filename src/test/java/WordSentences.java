/** Promises 22 to 27, 43 and 44: the words of texts, counted, compared, replaced and shared out. */
final class WordSentences extends Sentences {
    private WordSentences() {
    }

    static void all() {
        replaceWord();
        frequency();
        different();
        most();
        isApart();
        alone();
        meanWord();
        share();
    }

    /** Texts with and without words in common, and one without words. */
    private static final Room PAIR = () -> {
        WordConcordance x = of(1, 2, 2, 3, 4, 1);
        Room.put(x, 1, 3, 5, 5, 2);
        Room.put(x, 2, 9, 8);
        return x;
    };

    private static Room room(int... words) {
        return () -> of(words);
    }

    private static Room roomOfMany(int word, int many) {
        return () -> Room.ofMany(word, many);
    }

    private static void replaceWord() {
        changes(22);
        says("Puts another word at all places of a word.", () -> {
            WordConcordance x = of(1, 2, 1, 3);
            x.replaceWord(0, 1, 99);
            is("two places", words(x, 0), "[99, 2, 99, 3]");
            x.replaceWord(0, 3, 2);
            is("the last place", words(x, 0), "[99, 2, 99, 2]");
            x.replaceWord(0, 1, 0);
            x.replaceWord(0, 2, 2);
            x.replaceWord(1, 2, 5);
            is("no other word", words(x, 0) + words(x, 1), "[99, 2, 99, 2][]");
            WordConcordance y = Room.ofMany(7, 60);
            y.replaceWord(0, 7, 8);
            is("a full text", y.frequency(0, 8) + " " + y.frequency(0, 7), "60 0");
        });
        text(FULL, (x, text) -> x.replaceWord(text, 1, 2));
        word(FULL, (x, word) -> x.replaceWord(0, word, 2));
        says("other: a word", () -> numbers(FULL, 0, 99, (x, other) -> x.replaceWord(0, 1, other)));
        says("Returns whether the first one stood in the text.", () -> {
            done(ONE, true, 1, x -> x.replaceWord(1, 7, 6));
            told(ONE, false, x -> x.replaceWord(2, 7, 6));
            done(SAMPLE, true, 1, x -> x.replaceWord(1, 5, 6));
            told(SAMPLE, false, x -> x.replaceWord(2, 5, 6));
            done(Room::counted, true, 0, x -> x.replaceWord(0, 59, 99));
            told(Room::counted, false, x -> x.replaceWord(0, 60, 99));
            is("it stood", of(1, 2).replaceWord(0, 1, 3), true);
            is("it stood at the end", of(1, 2).replaceWord(0, 2, 3), true);
            told(room(1, 2), true, x -> x.replaceWord(0, 1, 1));
            told(room(1, 2), false, x -> x.replaceWord(0, 3, 1));
            told(room(1, 2), false, x -> x.replaceWord(0, 3, 3));
            told(room(1, 2), false, x -> x.replaceWord(1, 1, 2));
            WordConcordance x = of(1, 2);
            x.remove(0, 1);
            is("it was removed", x.replaceWord(0, 2, 3), false);
        });
        says("Throws IndexOutOfBoundsException if there is no such text or word", () -> {
            refused(INDEX, SAMPLE, x -> x.replaceWord(4, 5, 1));
            refused(INDEX, SAMPLE, x -> x.replaceWord(-1, 5, 1));
            refused(INDEX, SAMPLE, x -> x.replaceWord(1, 100, 1));
            refused(INDEX, SAMPLE, x -> x.replaceWord(1, -1, 1));
            refused(INDEX, SAMPLE, x -> x.replaceWord(1, 5, 100));
            refused(INDEX, SAMPLE, x -> x.replaceWord(1, 5, -1));
            refused(INDEX, SAMPLE, x -> x.replaceWord(1, 99, 100));
            refused(INDEX, SAMPLE, x -> x.replaceWord(2, 100, 100));
        });
    }

    private static void frequency() {
        asks(23);
        says("Counts how often a word stands in a text.", () -> {
            told(SAMPLE, 2, x -> x.frequency(1, 5));
            told(SAMPLE, 1, x -> x.frequency(1, 3));
            told(SAMPLE, 0, x -> x.frequency(3, 5));
        });
        text(FULL, (x, text) -> x.frequency(text, 1));
        word(FULL, (x, word) -> x.frequency(0, word));
        says("Returns how often.", () -> {
            told(ONE, 1, x -> x.frequency(2, 8));
            told(ONE, 0, x -> x.frequency(2, 7));
            told(Room::counted, 1, x -> x.frequency(0, 59));
            told(EMPTY, 0, x -> x.frequency(0, 0));
            told(SAMPLE, 0, x -> x.frequency(1, 4));
            told(roomOfMany(99, 60), 60, x -> x.frequency(0, 99));
            told(roomOfMany(99, 60), 0, x -> x.frequency(0, 0));
            WordConcordance x = of(3, 3);
            x.remove(0, 1);
            is("one was removed", x.frequency(0, 3), 1);
        });
        says("Throws IndexOutOfBoundsException if there is no such text or word", () -> {
            refused(INDEX, SAMPLE, x -> x.frequency(4, 0));
            refused(INDEX, SAMPLE, x -> x.frequency(-1, 0));
            refused(INDEX, SAMPLE, x -> x.frequency(1, 100));
            refused(INDEX, SAMPLE, x -> x.frequency(2, -1));
        });
    }

    private static void different() {
        asks(24);
        says("Counts the different words of a text.", () -> {
            told(SAMPLE, 3, x -> x.different(1));
            told(SAMPLE, 3, x -> x.different(3));
            told(room(7, 7, 7), 1, x -> x.different(0));
        });
        text(FULL, (x, text) -> x.different(text));
        says("Returns how many there are.", () -> {
            told(ONE, 1, x -> x.different(2));
            told(Room::counted, 60, x -> x.different(0));
            told(EMPTY, 0, x -> x.different(0));
            told(room(0), 1, x -> x.different(0));
            told(room(0, 99), 2, x -> x.different(0));
            told(room(0, 99, 0), 2, x -> x.different(0));
            told(roomOfMany(99, 60), 1, x -> x.different(0));
            WordConcordance x = new WordConcordance();
            for (int word = 40; word < 100; word++) {
                x.add(3, word);
            }
            is("a full text", x.different(3), 60);
        });
        says("Throws IndexOutOfBoundsException if there is no such text", () -> {
            refused(INDEX, SAMPLE, x -> x.different(4));
            refused(INDEX, SAMPLE, x -> x.different(-1));
        });
    }

    private static void most() {
        asks(25);
        says("Returns the word that stands most often in a text.", () -> {
            told(room(9, 4, 8, 4, 9, 9), 9, x -> x.most(0));
            told(room(1, 1, 2, 2, 2), 2, x -> x.most(0));
            told(room(2, 2, 2, 1, 1), 2, x -> x.most(0));
        });
        text(FULL, (x, text) -> x.most(text));
        says("Returns the word, of several the least one.", () -> {
            told(ONE, 9, x -> x.most(3));
            told(Room::counted, 0, x -> x.most(0));
            told(room(9, 4, 8, 4, 9), 4, x -> x.most(0));
            told(room(4, 9, 8, 9, 4), 4, x -> x.most(0));
            told(room(7, 0, 99), 0, x -> x.most(0));
            told(room(0), 0, x -> x.most(0));
            told(room(99), 99, x -> x.most(0));
            told(roomOfMany(99, 60), 99, x -> x.most(0));
            told(() -> halves(30), 0, x -> x.most(0));
            told(() -> halves(31), 99, x -> x.most(0));
        });
        says("Throws IndexOutOfBoundsException if there is no such text", () -> {
            refused(INDEX, SAMPLE, x -> x.most(4));
            refused(INDEX, SAMPLE, x -> x.most(-1));
        });
        says("Throws NoSuchElementException if the text has no words", () -> {
            refused(NO_ELEMENT, SAMPLE, x -> x.most(2));
            refused(NO_ELEMENT, EMPTY, x -> x.most(0));
            taken(room(0), x -> x.most(0));
        });
    }

    /** A full text of so many words 99, and of words 0 behind them. */
    private static WordConcordance halves(int many) {
        WordConcordance x = Room.ofMany(99, many);
        x.addMany(0, 0, 60 - many);
        return x;
    }

    private static void isApart() {
        asks(26);
        says("Tells whether two texts have no word in common.", () -> {
            told(PAIR, false, x -> x.isApart(0, 1));
            told(PAIR, false, x -> x.isApart(1, 0));
            told(PAIR, true, x -> x.isApart(0, 2));
            told(PAIR, true, x -> x.isApart(2, 0));
        });
        one(FULL, (x, one) -> x.isApart(one, 0));
        says("other: number of a text", () -> numbers(FULL, 0, 3, (x, other) -> x.isApart(0, other)));
        says("Returns whether they have none.", () -> {
            told(ONE, false, x -> x.isApart(0, 1));
            told(ONE, true, x -> x.isApart(1, 2));
            told(ONE, false, x -> x.isApart(3, 3));
            told(FULL, false, x -> x.isApart(0, 0));
            told(Room::counted, true, x -> x.isApart(0, 1));
            told(PAIR, true, x -> x.isApart(0, 3));
            told(PAIR, true, x -> x.isApart(3, 0));
            told(EMPTY, true, x -> x.isApart(0, 1));
            told(EMPTY, true, x -> x.isApart(2, 2));
            told(PAIR, false, x -> x.isApart(1, 1));
            WordConcordance x = Room.ofMany(7, 60);
            x.addMany(1, 8, 59);
            is("full texts without a common word", x.isApart(0, 1), true);
            x.add(1, 7);
            is("the last word alone", x.isApart(0, 1) || x.isApart(1, 0), false);
            x.remove(1, 59);
            is("without it", x.isApart(0, 1) && x.isApart(1, 0), true);
            x.insert(1, 0, 7);
            is("the first word alone", x.isApart(0, 1) || x.isApart(1, 0), false);
        });
        says("Throws IndexOutOfBoundsException if there is no such text", () -> {
            refused(INDEX, SAMPLE, x -> x.isApart(4, 0));
            refused(INDEX, SAMPLE, x -> x.isApart(-1, 0));
            refused(INDEX, SAMPLE, x -> x.isApart(2, 4));
            refused(INDEX, SAMPLE, x -> x.isApart(2, -1));
        });
    }

    private static void alone() {
        asks(27);
        says("Counts the different words of a text that do not stand in another one.", () -> {
            told(PAIR, 2, x -> x.alone(0, 1));
            told(PAIR, 1, x -> x.alone(1, 0));
            told(PAIR, 4, x -> x.alone(0, 2));
        });
        one(FULL, (x, one) -> x.alone(one, 0));
        says("other: number of the other one", () -> numbers(FULL, 0, 3, (x, other) -> x.alone(0, other)));
        says("Returns how many there are.", () -> {
            told(ONE, 0, x -> x.alone(0, 1));
            told(ONE, 1, x -> x.alone(1, 2));
            told(FULL, 0, x -> x.alone(0, 0));
            told(Room::counted, 60, x -> x.alone(0, 1));
            told(Room::counted, 0, x -> x.alone(1, 0));
            told(PAIR, 3, x -> x.alone(1, 3));
            told(PAIR, 0, x -> x.alone(3, 1));
            told(PAIR, 0, x -> x.alone(0, 0));
            told(EMPTY, 0, x -> x.alone(0, 1));
            WordConcordance x = new WordConcordance();
            for (int word = 40; word < 100; word++) {
                x.add(3, word);
            }
            is("a full text beside no words", x.alone(3, 0), 60);
            x.add(0, 99);
            is("a full text beside its last word", x.alone(3, 0), 59);
        });
        says("Throws IndexOutOfBoundsException if there is no such text", () -> {
            refused(INDEX, SAMPLE, x -> x.alone(4, 0));
            refused(INDEX, SAMPLE, x -> x.alone(-1, 0));
            refused(INDEX, SAMPLE, x -> x.alone(2, 4));
            refused(INDEX, SAMPLE, x -> x.alone(2, -1));
        });
    }

    private static void meanWord() {
        asks(43);
        says("Returns the mean of the words of a text.", () -> {
            told(room(1, 2, 2), 5.0 / 3.0, x -> x.meanWord(0));
            told(room(0, 1), 0.5, x -> x.meanWord(0));
            told(SAMPLE, 3.5, x -> x.meanWord(3));
        });
        text(FULL, (x, text) -> x.meanWord(text));
        says("Returns all of them added up and converted to double, divided by their number, converted to double; 0.0 without words.",
            () -> {
            told(EMPTY, 0.0, x -> x.meanWord(0));
            told(SAMPLE, 0.0, x -> x.meanWord(2));
            told(room(0, 0), 0.0, x -> x.meanWord(0));
            told(room(99), 99.0, x -> x.meanWord(0));
            told(roomOfMany(99, 60), 99.0, x -> x.meanWord(0));
            told(ONE, 8.0, x -> x.meanWord(2));
            told(Room::counted, 29.5, x -> x.meanWord(0));
            told(room(0, 0, 1), 0.3333333333333333, x -> x.meanWord(0));
            told(room(9, 0, 0, 1, 0, 0, 0), 1.4285714285714286, x -> x.meanWord(0));
            WordConcordance x = Room.ofMany(99, 59);
            x.add(0, 98);
            is("a full text", x.meanWord(0), 5939.0 / 60.0);
            x.cut(0, 0, 59);
            is("one word of a text that was full", x.meanWord(0), 98.0);
            x.cut(0, 0, 1);
            is("no words of a text that was full", x.meanWord(0), 0.0);
        });
        says("Throws IndexOutOfBoundsException if there is no such text", () -> {
            refused(INDEX, SAMPLE, x -> x.meanWord(4));
            refused(INDEX, SAMPLE, x -> x.meanWord(-1));
        });
    }

    private static void share() {
        asks(44);
        says("Returns the share of the places of a text at which a word stands.", () -> {
            told(room(1, 2, 2), 2.0f / 3.0f, x -> x.share(0, 2));
            told(room(1, 2, 2), 1.0f / 3.0f, x -> x.share(0, 1));
            told(room(1, 2, 2), 0.0f, x -> x.share(0, 3));
        });
        text(FULL, (x, text) -> x.share(text, 1));
        word(FULL, (x, word) -> x.share(0, word));
        says("Returns how many there are, converted to float, divided by the number of words, converted to float; 0.0f without words.",
            () -> {
            told(EMPTY, 0.0f, x -> x.share(0, 0));
            told(SAMPLE, 0.0f, x -> x.share(2, 99));
            told(room(7), 1.0f, x -> x.share(0, 7));
            told(roomOfMany(7, 60), 1.0f, x -> x.share(0, 7));
            told(roomOfMany(7, 60), 0.0f, x -> x.share(0, 0));
            told(ONE, 1.0f, x -> x.share(2, 8));
            told(ONE, 0.0f, x -> x.share(2, 7));
            WordConcordance x = Room.ofMany(7, 59);
            x.add(0, 8);
            is("one of a full text", x.share(0, 8), 1.0f / 60.0f);
            is("the others of a full text", x.share(0, 7), 59.0f / 60.0f);
        });
        says("Throws IndexOutOfBoundsException if there is no such text or word", () -> {
            refused(INDEX, SAMPLE, x -> x.share(4, 0));
            refused(INDEX, SAMPLE, x -> x.share(-1, 0));
            refused(INDEX, SAMPLE, x -> x.share(1, 100));
            refused(INDEX, SAMPLE, x -> x.share(1, -1));
            refused(INDEX, SAMPLE, x -> x.share(2, 100));
        });
    }
}
