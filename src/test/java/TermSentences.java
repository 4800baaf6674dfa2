import java.util.List;

/** What the document says before its promises, and promise 1. */
final class TermSentences extends Sentences {
    private static final String RULES =
        "If several exceptions apply to a call, the one that is listed first is thrown; a call that throws an exception changes nothing.";

    private TermSentences() {
    }

    static void all() {
        changes(0);
        whatItIs();
        calls();
        orderInTexts();
        orderInPhrases();
        orderInOrders();
        orderInPlaces();
        whatDoesNotExist();
        numberedFromNought();
        wordsAndRanks();
        texts();
        phrases();
        parts();
        standing();
        sorted();
        constants();
        newObject();
    }

    private static void whatItIs() {
        says("A small concordance: texts as rows of words, which are numbers; phrases are found, counted and put in place of others; "
            + "words are counted, compared, sorted, searched, turned, moved round and replaced; which words and phrases texts have in "
            + "common, and where each word stands.", () -> {
            WordConcordance x = of(3, 1, 2, 1, 2);
            Room.say(x, WANTED, 1, 2);
            is("where the phrase is found", x.find(0), 1);
            is("how often it is counted", x.count(0, true), 2);
            Room.say(x, NEW, 9, 8, 7);
            is("how often another one is put in its place", x.replace(0) + words(x, 0), "2[3, 9, 8, 7, 9, 8, 7]");
            is("how often a word is counted", x.frequency(0, 9), 2);
            is("the greatest word", x.greatest(0, BY_NUMBER), 9);
            is("the words sorted", x.sort(0, BY_NUMBER, false) + words(x, 0), "6[3, 7, 7, 8, 8, 9, 9]");
            is("a word searched", x.search(0, BY_NUMBER, 5), 1);
            is("the words turned", x.turn(0, 0, 3) + words(x, 0), "3[7, 7, 3, 8, 8, 9, 9]");
            is("the words moved round", x.move(0, 0, 7, 2) + words(x, 0), "2[9, 9, 7, 7, 3, 8, 8]");
            is("a word replaced", x.replaceWord(0, 7, 4) + words(x, 0), "true[9, 9, 4, 4, 3, 8, 8]");
            Room.put(x, 1, 5, 4, 3, 8);
            is("a word in common", x.isApart(0, 1), false);
            is("a phrase in common", x.common(0, 1, 0) + " " + x.common(0, 1, 1) + " " + x.common(0, 1, 2), "3 3 1");
            is("where a word stands", x.stands(4, 0) + " " + x.stands(4, 1) + " " + x.stands(4, 2), "2 3 101");
        });
    }

    private static void calls() {
        says("An object is used for at most 512 calls after it has been made; what later calls answer is free.", () -> {
            WordConcordance x = new WordConcordance();
            for (int call = 0; call < 510; call += 2) {
                is("call " + call, x.add(3, call % 100), 1);
                is("call " + (call + 1), x.remove(3, 0), call % 100);
            }
            is("the 511th call", x.add(3, 7), 1);
            is("the 512th call", x.digest(3), 224);
        });
    }

    private static void orderInTexts() {
        says(RULES, () -> {
            refused(INDEX, FULL, x -> x.add(4, 0));
            refused(INDEX, FULL, x -> x.add(0, 100));
        });
        says(RULES, () -> {
            refused(INDEX, FULL, x -> x.addMany(4, 0, -1));
            refused(INDEX, FULL, x -> x.addMany(0, 100, -1));
            refused(INDEX, FULL, x -> x.addMany(4, 0, 1));
            refused(INDEX, FULL, x -> x.addMany(0, -1, 1));
        });
        says(RULES, () -> {
            refused(INDEX, FULL, x -> x.scatter(4, 61, 5, 1));
            refused(INDEX, FULL, x -> x.scatter(-1, 1, 5, -1));
            refused(INDEX, FULL, x -> x.scatter(4, 1, 5, 1));
            refused(ARGUMENT, FULL, x -> x.scatter(0, 61, 5, 1));
            refused(ARGUMENT, FULL, x -> x.scatter(0, 1, 0, 1));
            refused(ARGUMENT, FULL, x -> x.scatter(0, 1, 101, 1));
            refused(ARGUMENT, FULL, x -> x.scatter(0, 1, 5, -1));
        });
        says(RULES, () -> {
            refused(INDEX, FULL, x -> x.insert(4, 0, 0));
            refused(INDEX, FULL, x -> x.insert(0, 61, 0));
            refused(INDEX, FULL, x -> x.insert(0, -1, 0));
            refused(INDEX, FULL, x -> x.insert(0, 60, 100));
        });
        says(RULES, () -> {
            refused(INDEX, SAMPLE, x -> x.setRank(100, 10));
            refused(INDEX, SAMPLE, x -> x.setRank(-1, -10));
        });
    }

    private static void orderInPhrases() {
        says(RULES, () -> {
            refused(INDEX, FULL, x -> x.say(2, 0));
            refused(INDEX, FULL, x -> x.say(WANTED, 100));
        });
        says(RULES, () -> {
            refused(INDEX, FULL, x -> x.quote(2, 0, 0, 13));
            refused(INDEX, FULL, x -> x.quote(NEW, 4, 0, 13));
            refused(INDEX, FULL, x -> x.quote(NEW, 0, 0, 61));
            refused(INDEX, FULL, x -> x.quote(NEW, 0, -1, 60));
        });
        says(RULES, () -> {
            refused(INDEX, EMPTY, x -> x.replace(4));
            refused(INDEX, EMPTY, x -> x.replace(-1));
        });
    }

    private static void orderInOrders() {
        says(RULES, () -> {
            refused(INDEX, EMPTY, x -> x.most(4));
            refused(INDEX, EMPTY, x -> x.most(-1));
        });
        says(RULES, () -> {
            refused(INDEX, EMPTY, x -> x.greatest(4, 2));
            refused(ARGUMENT, EMPTY, x -> x.greatest(0, 2));
            refused(INDEX, EMPTY, x -> x.greatest(4, 0));
        });
        says(RULES, () -> {
            refused(INDEX, EMPTY, x -> x.least(4, -1));
            refused(ARGUMENT, EMPTY, x -> x.least(0, -1));
            refused(INDEX, EMPTY, x -> x.least(-1, 1));
        });
        says(RULES, () -> refused(INDEX, SAMPLE, x -> x.sort(4, 2, true)));
        says(RULES, () -> refused(INDEX, SAMPLE, x -> x.isSorted(4, 2)));
        says(RULES, () -> {
            refused(INDEX, SAMPLE, x -> x.search(4, 2, 0));
            refused(INDEX, SAMPLE, x -> x.search(3, 2, 100));
            refused(INDEX, SAMPLE, x -> x.search(1, BY_NUMBER, 100));
            refused(INDEX, SAMPLE, x -> x.search(1, 2, -1));
            refused(ARGUMENT, SAMPLE, x -> x.search(1, 2, 0));
            refused(ARGUMENT, SAMPLE, x -> x.search(1, -1, 5));
        });
    }

    private static void orderInPlaces() {
        says(RULES, () -> {
            refused(INDEX, SAMPLE, x -> x.copy(0, 4));
            refused(INDEX, SAMPLE, x -> x.copy(4, 2));
        });
        says(RULES, () -> {
            refused(INDEX, SAMPLE, x -> x.stands(100, 0));
            refused(INDEX, EMPTY, x -> x.stands(-1, -1));
        });
        says(RULES, () -> {
            refused(INDEX, SAMPLE, x -> x.common(4, 0, 3));
            refused(INDEX, SAMPLE, x -> x.common(0, -1, -1));
        });
    }

    private static void whatDoesNotExist() {
        says("An IndexOutOfBoundsException is thrown for a text, a word, a place, or a part that does not exist.", () -> {
            refused(INDEX, SAMPLE, x -> x.size(4));
            refused(INDEX, SAMPLE, x -> x.size(-1));
            refused(INDEX, SAMPLE, x -> x.frequency(1, 100));
            refused(INDEX, SAMPLE, x -> x.frequency(1, -1));
            refused(INDEX, SAMPLE, x -> x.at(1, 4));
            refused(INDEX, SAMPLE, x -> x.at(1, -1));
            refused(INDEX, SAMPLE, x -> x.turn(1, 0, 5));
            refused(INDEX, SAMPLE, x -> x.turn(1, -1, 4));
            refused(INDEX, SAMPLE, x -> x.turn(1, 2, 1));
        });
    }

    private static void numberedFromNought() {
        says("Everything is numbered from 0.", () -> {
            WordConcordance x = of(0);
            is("the first place of the first text", x.at(0, 0), 0);
            is("where it stands first", x.stands(0, 0), 0);
            is("the rank of the first word", x.setRank(0, 1), 0);
            is("the first word of the first phrase", x.say(0, 0) + x.wordOf(0, 0), 1);
            is("where the phrase stands", x.find(0), 0);
        });
    }

    private static void wordsAndRanks() {
        says("A word is a number from 0 to 99, and has a rank, a number from -9 to 9 (0 at first).", () -> {
            WordConcordance x = new WordConcordance();
            for (int word = 0; word <= 99; word++) {
                is("the rank of " + word + " at first", x.setRank(word, word % 19 - 9), 0);
            }
            for (int word = 0; word <= 99; word++) {
                is("the rank of " + word, x.setRank(word, 0), word % 19 - 9);
            }
            refused(INDEX, EMPTY, z -> z.setRank(-1, 0));
            refused(INDEX, EMPTY, z -> z.setRank(100, 0));
            refused(ARGUMENT, EMPTY, z -> z.setRank(0, -10));
            refused(ARGUMENT, EMPTY, z -> z.setRank(99, 10));
        });
    }

    private static void texts() {
        says("There are four texts with at most 60 words each, empty at first; the words of a text stand at its places.", () -> {
            WordConcordance x = new WordConcordance();
            for (int text = 0; text < 4; text++) {
                is("text " + text + " at first", words(x, text), "[]");
                x.add(text, 10 + text);
                is("text " + text + " but for its first word", x.addMany(text, 20 + text, 58), 59);
                is("text " + text + " with its last word", x.add(text, 30 + text), 60);
            }
            for (int text = 0; text < 4; text++) {
                int full = text;
                is("a 61st word", Check.answer(x, z -> z.add(full, 1)), STATE.getName());
                is("text " + text, x.size(text) + " " + x.at(text, 0) + " " + x.at(text, 1) + " " + x.at(text, 58) + " "
                    + x.at(text, 59), "60 1" + text + " 2" + text + " 2" + text + " 3" + text);
            }
        });
    }

    private static void phrases() {
        says("There are two phrases, the WANTED one and the NEW one, with at most 12 words each, empty at first.", () -> {
            WordConcordance x = new WordConcordance();
            for (int phrase = WANTED; phrase <= NEW; phrase++) {
                is("phrase " + phrase + " at first", phrase(x, phrase), "[]");
                for (int word = 0; word < 12; word++) {
                    is("words of phrase " + phrase, x.say(phrase, 50 * phrase + word), word + 1);
                }
                int full = phrase;
                is("a 13th word", Check.answer(x, z -> z.say(full, 1)), STATE.getName());
            }
            is("WANTED", phrase(x, WANTED), "[0, 1, 2, 3, 4, 5, 6, 7, 8, 9, 10, 11]");
            is("NEW", phrase(x, NEW), "[50, 51, 52, 53, 54, 55, 56, 57, 58, 59, 60, 61]");
        });
    }

    private static void parts() {
        String part = "A part of a text is told by two places: its words from the first of them up to, but not with, the second one; "
            + "the second one is not less than the first one, and both can be the number of words (a part can have no words).";
        says(part, () -> partsOf((x, text, from, to) -> x.cut(text, from, to)));
        says(part, () -> partsOf((x, text, from, to) -> x.quote(WANTED, text, from, to)));
        says(part, () -> partsOf((x, text, from, to) -> x.findIn(text, from, to)));
        says(part, () -> partsOf((x, text, from, to) -> x.turn(text, from, to)));
        says(part, () -> partsOf((x, text, from, to) -> x.move(text, from, to, 1)));
        says(part, () -> partsOf((x, text, from, to) -> x.fill(text, from, to, 8)));
        says(part, () -> {
            WordConcordance x = of(1, 2, 3, 4, 5);
            x.fill(0, 1, 3, 9);
            is("a filled part", words(x, 0), "[1, 9, 9, 4, 5]");
            x.fill(0, 5, 5, 8);
            x.fill(0, 0, 0, 8);
            x.fill(0, 2, 2, 8);
            is("filled parts without words", words(x, 0), "[1, 9, 9, 4, 5]");
        });
    }

    private static void partsOf(PartCall call) {
        for (int[] part : new int[][] {{0, 0}, {0, 1}, {0, 4}, {2, 2}, {2, 3}, {3, 4}, {4, 4}}) {
            taken(SAMPLE, x -> call.on(x, 1, part[0], part[1]));
        }
        taken(SAMPLE, x -> call.on(x, 2, 0, 0));
        taken(SAMPLE, x -> call.on(x, 0, 60, 60));
        refused(INDEX, SAMPLE, x -> call.on(x, 1, 2, 1));
        refused(INDEX, SAMPLE, x -> call.on(x, 1, 4, 3));
        refused(INDEX, SAMPLE, x -> call.on(x, 1, 4, 5));
        refused(INDEX, SAMPLE, x -> call.on(x, 1, 5, 5));
        refused(INDEX, SAMPLE, x -> call.on(x, 1, -1, 0));
        refused(INDEX, SAMPLE, x -> call.on(x, 1, -1, -1));
        refused(INDEX, SAMPLE, x -> call.on(x, 2, 0, 1));
        refused(INDEX, SAMPLE, x -> call.on(x, 0, 60, 61));
    }

    private static void standing() {
        String stands = "A phrase stands in a text at a place if the words of the text from there on are just the words of the phrase, "
            + "in their order; the phrase without words stands at each place, and also behind the last word.";
        says(stands, () -> {
            WordConcordance x = of(1, 2, 1, 2, 3);
            is("each place without words", x.count(0, false), 6);
            is("the first place without words", x.find(0), 0);
            is("behind the last word", x.findLast(0), 5);
            Room.say(x, WANTED, 1, 2, 3);
            is("all words of it", x.find(0) + " " + x.findLast(0) + " " + x.count(0, false), "2 2 1");
            Room.say(x, WANTED, 2, 1, 3);
            is("in another order", x.find(0) + " " + x.findLast(0) + " " + x.count(0, false), "-1 -1 0");
            Room.say(x, WANTED, 2, 3, 3);
            is("its last word is behind the text", x.find(0) + " " + x.findLast(0) + " " + x.count(0, false), "-1 -1 0");
            Room.say(x, WANTED, 1, 2, 1, 2, 3);
            is("the whole text", x.find(0) + " " + x.findLast(0) + " " + x.count(0, false), "0 0 1");
            Room.say(x, WANTED, 1, 2, 1, 2, 3, 0);
            is("one word more than the text", x.find(0) + " " + x.findLast(0) + " " + x.count(0, false), "-1 -1 0");
        });
        says(stands, () -> {
            WordConcordance x = new WordConcordance();
            is("without words in a text without words", x.find(0) + " " + x.findLast(0) + " " + x.count(0, false), "0 0 1");
            x.say(WANTED, 0);
            is("a word in a text without words", x.find(0) + " " + x.findLast(0) + " " + x.count(0, false), "-1 -1 0");
        });
    }

    private static void sorted() {
        says("The text is sorted, BY_NUMBER, if no word is followed at once by a lesser one, and BY_RANK, if no word is followed "
            + "at once by one with a lesser rank.", () -> {
            WordConcordance x = of(4, 4, 7);
            is("alike words", x.isSorted(0, BY_NUMBER), true);
            is("alike ranks", x.isSorted(0, BY_RANK), true);
            x.setRank(7, -1);
            is("a lesser rank", x.isSorted(0, BY_RANK), false);
            is("a lesser rank, by number", x.isSorted(0, BY_NUMBER), true);
            x.add(0, 6);
            is("a lesser word", x.isSorted(0, BY_NUMBER), false);
            x.cut(0, 0, 3);
            is("one word", x.isSorted(0, BY_NUMBER) && x.isSorted(0, BY_RANK), true);
            is("no words", x.isSorted(1, BY_NUMBER) && x.isSorted(1, BY_RANK), true);
        });
    }

    private static void constants() {
        says("The constants: NONE = -1: There is none.", () -> {
            is("NONE", WordConcordance.NONE, -1);
            is("a word in no words", Check.answer(Room.SAMPLE.open(), x -> x.find(2)), WordConcordance.NONE);
        });
        says("FOUND = -2: The word is there.", () -> {
            is("FOUND", WordConcordance.FOUND, -2);
            is("a word that is there", of(3).search(0, BY_NUMBER, 3), WordConcordance.FOUND);
        });
        says("WANTED = 0, NEW = 1: The phrases.", () -> is("both", WordConcordance.WANTED + " " + WordConcordance.NEW, "0 1"));
        says("BY_NUMBER = 0, BY_RANK = 1: Orders of words.",
            () -> is("both", WordConcordance.BY_NUMBER + " " + WordConcordance.BY_RANK, "0 1"));
    }

    private static void newObject() {
        changes(1);
        says("Creates a concordance with four empty texts, two empty phrases, and the rank 0 for all words.", () -> {
            List<String> due = List.of("[]", "[]", "[]", "[]", "[]0", "[]0", " 0".repeat(100));
            is("a new object", Room.state(new WordConcordance()), due);
            WordConcordance other = Room.FULL.open();
            is("a new object beside another one", Room.state(new WordConcordance()), due);
            is("the other one", Room.state(other), Room.state(Room.FULL.open()));
        });
    }
}
