/** Promises 22 to 27, 43 and 44: the words of texts, counted, compared, replaced and shared out. */
public final class WordTest {
    public static void main(String[] args) {
        replaceWord();
        frequency();
        different();
        most();
        isApart();
        alone();
        meanWord();
        share();
        Check.end();
    }

    // Promise 22
    private static void replaceWord() {
        WordConcordance x = Check.of(1, 2, 1, 3);
        Check.is("replaceWord", x.replaceWord(0, 1, 99), true);
        Check.is("replaced words", Check.words(x, 0), "[99, 2, 99, 3]");
        Check.is("replaceWord at the end", x.replaceWord(0, 3, 2), true);
        Check.is("replaceWord by itself", x.replaceWord(0, 2, 2), true);
        Check.is("replaceWord of none", x.replaceWord(0, 1, 0), false);
        Check.is("replaceWord in no words", x.replaceWord(1, 0, 1), false);
        Check.is("words replaced at last", Check.words(x, 0), "[99, 2, 99, 2]");
        Check.refused("replaceWord in text 4", Check.INDEX, z -> z.replaceWord(4, 0, 0));
        Check.refused("replaceWord in text -1", Check.INDEX, z -> z.replaceWord(-1, 0, 0));
        Check.refused("replaceWord 100", Check.INDEX, z -> z.replaceWord(1, 100, 0));
        Check.refused("replaceWord -1", Check.INDEX, z -> z.replaceWord(1, -1, 0));
        Check.refused("replaceWord by 100", Check.INDEX, z -> z.replaceWord(1, 5, 100));
        Check.refused("replaceWord by -1", Check.INDEX, z -> z.replaceWord(1, 5, -1));
    }

    // Promise 23
    private static void frequency() {
        WordConcordance x = Check.sample();
        Check.is("frequency", x.frequency(1, 5) + " " + x.frequency(1, 3) + " " + x.frequency(1, 4), "2 1 0");
        Check.is("frequency in no words", x.frequency(2, 0), 0);
        x.remove(1, 3);
        Check.is("frequency of a removed word", x.frequency(1, 3), 0);
        x.addMany(2, 99, 60);
        Check.is("frequency of all", x.frequency(2, 99), 60);
        Check.refused("frequency in text 4", Check.INDEX, z -> z.frequency(4, 0));
        Check.refused("frequency in text -1", Check.INDEX, z -> z.frequency(-1, 0));
        Check.refused("frequency of word 100", Check.INDEX, z -> z.frequency(1, 100));
        Check.refused("frequency of word -1", Check.INDEX, z -> z.frequency(1, -1));
    }

    // Promise 24
    private static void different() {
        WordConcordance x = Check.sample();
        Check.is("different", x.different(1), 3);
        Check.is("different in no words", x.different(2), 0);
        x.addMany(2, 0, 5);
        Check.is("different of one word", x.different(2), 1);
        x.add(2, 99);
        Check.is("different of two words", x.different(2), 2);
        Check.refused("different in text 4", Check.INDEX, z -> z.different(4));
        Check.refused("different in text -1", Check.INDEX, z -> z.different(-1));
    }

    // Promise 25
    private static void most() {
        Check.is("most", Check.of(9, 4, 8, 4, 9, 9).most(0), 9);
        Check.is("most, the least of two", Check.of(9, 4, 8, 4, 9).most(0), 4);
        Check.is("most, the least of two, the other way", Check.of(4, 9, 8, 9, 4).most(0), 4);
        Check.is("most of each once", Check.of(7, 0, 99).most(0), 0);
        Check.is("most of one", Check.of(99).most(0), 99);
        Check.is("most often, though greater", Check.of(1, 1, 2, 2, 2).most(0), 2);
        Check.refused("most in text 4", Check.INDEX, z -> z.most(4));
        Check.refused("most in text -1", Check.INDEX, z -> z.most(-1));
        Check.refused("most in no words", Check.NO_ELEMENT, z -> z.most(2));
    }

    private static WordConcordance pair() {
        WordConcordance x = Check.of(1, 2, 2, 3, 4, 1);
        Check.put(x, 1, 3, 5, 5, 2);
        Check.put(x, 2, 9, 8);
        return x;
    }

    // Promise 26
    private static void isApart() {
        WordConcordance x = pair();
        Check.is("isApart", x.isApart(0, 1), false);
        Check.is("isApart the other way", x.isApart(1, 0), false);
        Check.is("isApart with none in common", x.isApart(0, 2), true);
        Check.is("isApart from no words", x.isApart(0, 3), true);
        Check.is("isApart of no words", x.isApart(3, 0), true);
        Check.is("isApart of no words from no words", x.isApart(3, 3), true);
        Check.is("isApart from itself", x.isApart(0, 0), false);
        Check.refused("isApart of text 4", Check.INDEX, z -> z.isApart(4, 0));
        Check.refused("isApart of text -1", Check.INDEX, z -> z.isApart(-1, 0));
        Check.refused("isApart from text 4", Check.INDEX, z -> z.isApart(2, 4));
        Check.refused("isApart from text -1", Check.INDEX, z -> z.isApart(2, -1));
    }

    // Promise 27
    private static void alone() {
        WordConcordance x = pair();
        Check.is("alone", x.alone(0, 1), 2);
        Check.is("alone the other way", x.alone(1, 0), 1);
        Check.is("alone with none in common", x.alone(0, 2), 4);
        Check.is("alone against no words", x.alone(1, 3), 3);
        Check.is("alone without words", x.alone(3, 1), 0);
        Check.is("alone against itself", x.alone(0, 0), 0);
        Check.refused("alone in text 4", Check.INDEX, z -> z.alone(4, 0));
        Check.refused("alone in text -1", Check.INDEX, z -> z.alone(-1, 0));
        Check.refused("alone against text 4", Check.INDEX, z -> z.alone(2, 4));
        Check.refused("alone against text -1", Check.INDEX, z -> z.alone(2, -1));
    }

    // Promise 43
    private static void meanWord() {
        Check.is("meanWord", Check.of(1, 2, 2).meanWord(0), 5.0 / 3.0);
        Check.is("meanWord of one", Check.of(99).meanWord(0), 99.0);
        Check.is("meanWord of the word 0", Check.of(0, 0).meanWord(0), 0.0);
        Check.is("meanWord without words", Check.of(1).meanWord(1), 0.0);
        Check.is("meanWord, half", Check.of(0, 1).meanWord(0), 0.5);
        Check.refused("meanWord of text 4", Check.INDEX, z -> z.meanWord(4));
        Check.refused("meanWord of text -1", Check.INDEX, z -> z.meanWord(-1));
    }

    // Promise 44
    private static void share() {
        Check.is("share", Check.of(1, 2, 2).share(0, 2), 2.0f / 3.0f);
        Check.is("share of all", Check.of(7, 7).share(0, 7), 1.0f);
        Check.is("share of none", Check.of(7, 7).share(0, 6), 0.0f);
        Check.is("share without words", Check.of(7).share(1, 0), 0.0f);
        Check.refused("share in text 4", Check.INDEX, z -> z.share(4, 0));
        Check.refused("share in text -1", Check.INDEX, z -> z.share(-1, 0));
        Check.refused("share of word 100", Check.INDEX, z -> z.share(1, 100));
        Check.refused("share of word 100 without words", Check.INDEX, z -> z.share(2, 100));
        Check.refused("share of word -1", Check.INDEX, z -> z.share(1, -1));
    }
}
