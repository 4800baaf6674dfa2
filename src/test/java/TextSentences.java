import java.math.BigInteger;
import java.util.ArrayList;
import java.util.List;

/** Promises 2 to 12: putting words into texts and ranks to words, and asking for them. */
final class TextSentences extends Sentences {
    private TextSentences() {
    }

    static void all() {
        add();
        addMany();
        scatter();
        refusedScatter();
        insert();
        set();
        remove();
        cut();
        size();
        at();
        digest();
        setRank();
    }

    private static void add() {
        changes(2);
        says("Puts a word behind all others of a text.", () -> {
            WordConcordance x = of(4, 9);
            x.add(0, 7);
            is("the text", words(x, 0), "[4, 9, 7]");
            x.add(1, 5);
            is("a text that was empty", words(x, 1), "[5]");
            is("the others", words(x, 0) + words(x, 2) + words(x, 3), "[4, 9, 7][][]");
            WordConcordance y = Room.ofMany(1, 59);
            y.add(0, 8);
            is("the last place", y.at(0, 58) + " " + y.at(0, 59), "1 8");
        });
        text(ONE, (x, text) -> x.add(text, 5));
        word(ONE, (x, word) -> x.add(0, word));
        says("Returns how many words the text has then.", () -> {
            done(EMPTY, 1, 3, x -> x.add(3, 0));
            done(ONE, 2, 0, x -> x.add(0, 99));
            done(SAMPLE, 5, 1, x -> x.add(1, 9));
            done(() -> Room.ofMany(1, 59), 60, 0, x -> x.add(0, 1));
            WordConcordance x = new WordConcordance();
            is("the first word", x.add(2, 0), 1);
            is("the second word", x.add(2, 99), 2);
            is("the first word of another text", x.add(3, 99), 1);
            is("the 60th word", Room.ofMany(1, 59).add(0, 1), 60);
        });
        says("Throws IndexOutOfBoundsException if there is no such text or word", () -> {
            refused(INDEX, SAMPLE, x -> x.add(4, 5));
            refused(INDEX, SAMPLE, x -> x.add(-1, 5));
            refused(INDEX, SAMPLE, x -> x.add(1, 100));
            refused(INDEX, SAMPLE, x -> x.add(1, -1));
            refused(INDEX, SAMPLE, x -> x.add(GREATEST, LEAST));
        });
        says("Throws IllegalStateException if it has 60 words", () -> {
            refused(STATE, FULL, x -> x.add(0, 5));
            refused(STATE, FULL, x -> x.add(3, 0));
            taken(() -> Room.ofMany(1, 58), x -> x.add(0, 5));
            taken(() -> Room.ofMany(1, 59), x -> x.add(0, 5));
            refused(STATE, () -> Room.ofMany(1, 60), x -> x.add(0, 5));
            taken(() -> Room.ofMany(1, 60), x -> x.add(1, 5));
        });
    }

    private static void addMany() {
        changes(3);
        says("Puts a word behind all others of a text, several times.", () -> {
            WordConcordance x = of(4);
            x.addMany(0, 6, 3);
            is("the text", words(x, 0), "[4, 6, 6, 6]");
            x.addMany(0, 7, 1);
            is("once", words(x, 0), "[4, 6, 6, 6, 7]");
            is("the others", words(x, 1) + words(x, 2) + words(x, 3), "[][][]");
        });
        text(ONE, (x, text) -> x.addMany(text, 5, 2));
        word(ONE, (x, word) -> x.addMany(0, word, 2));
        says("many: how often, 0 or more", () -> {
            told(SAMPLE, 4, x -> x.addMany(1, 9, 0));
            told(SAMPLE, 0, x -> x.addMany(2, 9, 0));
            told(SAMPLE, 60, x -> x.addMany(0, 9, 0));
            refused(ARGUMENT, SAMPLE, x -> x.addMany(1, 9, -1));
        });
        says("Returns how many words the text has then.", () -> {
            done(EMPTY, 1, 1, x -> x.addMany(1, 6, 1));
            done(EMPTY, 60, 3, x -> x.addMany(3, 6, 60));
            done(ONE, 4, 2, x -> x.addMany(2, 6, 3));
            told(ONE, 1, x -> x.addMany(0, 6, 0));
            done(SAMPLE, 60, 1, x -> x.addMany(1, 6, 56));
            WordConcordance x = of(4);
            is("three more", x.addMany(0, 6, 3), 4);
            is("none more", x.addMany(0, 6, 0), 4);
            is("up to the last place", x.addMany(0, 6, 56), 60);
            is("a whole text", x.addMany(1, 6, 60), 60);
        });
        says("Throws IndexOutOfBoundsException if there is no such text or word", () -> {
            refused(INDEX, SAMPLE, x -> x.addMany(4, 5, 1));
            refused(INDEX, SAMPLE, x -> x.addMany(-1, 5, 0));
            refused(INDEX, SAMPLE, x -> x.addMany(1, 100, 1));
            refused(INDEX, SAMPLE, x -> x.addMany(1, -1, 0));
            refused(INDEX, SAMPLE, x -> x.addMany(2, 100, 0));
        });
        says("Throws IllegalArgumentException if many is less than 0", () -> {
            refused(ARGUMENT, SAMPLE, x -> x.addMany(1, 5, -1));
            refused(ARGUMENT, EMPTY, x -> x.addMany(0, 0, -1));
            refused(ARGUMENT, FULL, x -> x.addMany(0, 5, -1));
            refused(ARGUMENT, SAMPLE, x -> x.addMany(1, 5, LEAST));
            refused(ARGUMENT, FULL, x -> x.addMany(3, 5, LEAST));
        });
        says("Throws IllegalStateException if it would have more than 60 words", () -> {
            taken(SAMPLE, x -> x.addMany(1, 9, 56));
            refused(STATE, SAMPLE, x -> x.addMany(1, 9, 57));
            taken(EMPTY, x -> x.addMany(0, 9, 60));
            refused(STATE, EMPTY, x -> x.addMany(0, 9, 61));
            taken(() -> Room.ofMany(1, 59), x -> x.addMany(0, 9, 1));
            refused(STATE, FULL, x -> x.addMany(2, 9, 1));
            refused(STATE, FULL, x -> x.addMany(2, 9, GREATEST));
            refused(STATE, SAMPLE, x -> x.addMany(1, 9, 60));
            refused(STATE, SAMPLE, x -> x.addMany(1, 9, GREATEST - 3));
        });
    }

    private static void scatter() {
        changes(4);
        says("Puts drawn words behind all others of a text.", () -> {
            WordConcordance x = of(4);
            x.scatter(0, 5, 100, 1);
            is("the text", words(x, 0), "[4, 38, 58, 13, 15, 51]");
            x.scatter(0, 0, 100, 1);
            is("none drawn", words(x, 0), "[4, 38, 58, 13, 15, 51]");
            is("the others", words(x, 1) + words(x, 2) + words(x, 3), "[][][]");
        });
        says("For each one: x (the seed at first) becomes x * 1103515245 + 12345 modulo 2^31; "
            + "the word is x / 65536 (rounded down) modulo range.", () -> {
            for (int seed : new int[] {0, 1, 2, 12345, 65535, 65536, 1 << 30, GREATEST - 1, GREATEST}) {
                for (int range : new int[] {1, 2, 3, 64, 99, 100}) {
                    WordConcordance x = new WordConcordance();
                    x.scatter(0, 60, range, seed);
                    is("seed " + seed + ", range " + range, words(x, 0), drawn(60, range, seed));
                }
            }
        });
        text(ONE, (x, text) -> x.scatter(text, 3, 100, 7));
        says("many: 0 to 60", () -> {
            limits(ARGUMENT, EMPTY, 0, 60, (x, many) -> x.scatter(0, many, 100, 7));
            told(SAMPLE, 4, x -> x.scatter(1, 0, 100, 7));
            told(FULL, 60, x -> x.scatter(1, 0, 100, 7));
        });
        says("range: 1 to 100", () -> {
            limits(ARGUMENT, EMPTY, 1, 100, (x, range) -> x.scatter(0, 3, range, 7));
            limits(ARGUMENT, FULL, 1, 100, (x, range) -> x.scatter(0, 0, range, 7));
            WordConcordance x = new WordConcordance();
            x.scatter(0, 60, 1, 7);
            is("the only word", x.frequency(0, 0), 60);
        });
        says("seed: 0 or more", () -> {
            limits(ARGUMENT, EMPTY, 0, GREATEST, (x, seed) -> x.scatter(0, 3, 100, seed));
            limits(ARGUMENT, FULL, 0, GREATEST, (x, seed) -> x.scatter(0, 0, 100, seed));
        });
        says("Returns how many words the text has then.", () -> {
            done(EMPTY, 1, 1, x -> x.scatter(1, 1, 100, 7));
            done(EMPTY, 60, 3, x -> x.scatter(3, 60, 100, 7));
            done(ONE, 4, 2, x -> x.scatter(2, 3, 100, 7));
            told(ONE, 1, x -> x.scatter(0, 0, 100, 7));
            done(SAMPLE, 60, 1, x -> x.scatter(1, 56, 100, 7));
            WordConcordance x = of(4);
            is("five more", x.scatter(0, 5, 100, 1), 6);
            is("none more", x.scatter(0, 0, 100, 1), 6);
            is("up to the last place", x.scatter(0, 54, 100, 1), 60);
            is("none in an empty text", x.scatter(1, 0, 100, 1), 0);
        });
    }

    private static String drawn(int many, int range, int seed) {
        BigInteger x = BigInteger.valueOf(seed);
        List<Integer> all = new ArrayList<>();
        for (int i = 0; i < many; i++) {
            x = x.multiply(BigInteger.valueOf(1103515245)).add(BigInteger.valueOf(12345)).mod(BigInteger.TWO.pow(31));
            all.add(x.divide(BigInteger.valueOf(65536)).mod(BigInteger.valueOf(range)).intValue());
        }
        return all.toString();
    }

    private static void refusedScatter() {
        says("Throws IndexOutOfBoundsException if there is no such text", () -> {
            refused(INDEX, SAMPLE, x -> x.scatter(4, 1, 5, 1));
            refused(INDEX, SAMPLE, x -> x.scatter(-1, 0, 5, 1));
            refused(INDEX, SAMPLE, x -> x.scatter(4, -1, 0, -1));
        });
        says("Throws IllegalArgumentException if another parameter is out of range", () -> {
            refused(ARGUMENT, SAMPLE, x -> x.scatter(1, -1, 5, 1));
            refused(ARGUMENT, SAMPLE, x -> x.scatter(2, 61, 5, 1));
            refused(ARGUMENT, SAMPLE, x -> x.scatter(1, 3, 0, 1));
            refused(ARGUMENT, SAMPLE, x -> x.scatter(1, 3, 101, 1));
            refused(ARGUMENT, SAMPLE, x -> x.scatter(1, 3, 5, -1));
            refused(ARGUMENT, SAMPLE, x -> x.scatter(1, 0, 0, 1));
            refused(ARGUMENT, SAMPLE, x -> x.scatter(1, 0, 5, -1));
            refused(ARGUMENT, SAMPLE, x -> x.scatter(1, LEAST, LEAST, LEAST));
            refused(ARGUMENT, SAMPLE, x -> x.scatter(1, GREATEST, GREATEST, GREATEST));
        });
        says("Throws IllegalStateException if it would have more than 60 words", () -> {
            taken(SAMPLE, x -> x.scatter(1, 56, 5, 1));
            refused(STATE, SAMPLE, x -> x.scatter(1, 57, 5, 1));
            refused(STATE, SAMPLE, x -> x.scatter(1, 60, 5, 1));
            refused(STATE, FULL, x -> x.scatter(0, 1, 5, 1));
            refused(STATE, FULL, x -> x.scatter(0, 60, 5, 1));
            refused(STATE, () -> of(1), x -> x.scatter(0, 60, 5, 1));
        });
    }

    private static void insert() {
        changes(5);
        says("Inserts a word; the words from that place on go up by one place.", () -> {
            WordConcordance x = of(5);
            x.insert(0, 0, 6);
            is("before all", words(x, 0), "[6, 5]");
            x.insert(0, 2, 7);
            is("behind all", words(x, 0), "[6, 5, 7]");
            x.insert(0, 1, 8);
            is("between", words(x, 0), "[6, 8, 5, 7]");
            x.insert(1, 0, 9);
            is("in an empty text", words(x, 1), "[9]");
            x.addMany(0, 1, 55);
            x.insert(0, 0, 2);
            is("the 60th", x.at(0, 0) + " " + x.at(0, 1) + " " + x.at(0, 4) + " " + x.at(0, 59), "2 6 7 1");
        });
        text(ONE, (x, text) -> x.insert(text, 0, 5));
        says("place: 0 up to the number of its words", () -> {
            limits(INDEX, SAMPLE, 0, 4, (x, place) -> x.insert(1, place, 6));
            limits(INDEX, SAMPLE, 0, 0, (x, place) -> x.insert(2, place, 6));
            limits(INDEX, () -> Room.ofMany(1, 59), 0, 59, (x, place) -> x.insert(0, place, 6));
            for (int place : new int[] {-1, 61, LEAST, GREATEST}) {
                refused(INDEX, FULL, x -> x.insert(0, place, 6));
            }
        });
        word(ONE, (x, word) -> x.insert(0, 0, word));
        says("Returns how many words the text has then.", () -> {
            done(EMPTY, 1, 3, x -> x.insert(3, 0, 0));
            done(ONE, 2, 0, x -> x.insert(0, 1, 99));
            done(SAMPLE, 5, 1, x -> x.insert(1, 2, 9));
            done(() -> Room.ofMany(1, 59), 60, 0, x -> x.insert(0, 0, 2));
            WordConcordance x = new WordConcordance();
            is("the first word", x.insert(3, 0, 6), 1);
            is("the second word", x.insert(3, 0, 6), 2);
            is("the 60th word", Room.ofMany(1, 59).insert(0, 59, 6), 60);
        });
        says("Throws IndexOutOfBoundsException if there is no such text or word, or place is out of range", () -> {
            refused(INDEX, SAMPLE, x -> x.insert(4, 0, 6));
            refused(INDEX, SAMPLE, x -> x.insert(-1, 0, 6));
            refused(INDEX, SAMPLE, x -> x.insert(1, 0, 100));
            refused(INDEX, SAMPLE, x -> x.insert(1, 0, -1));
            refused(INDEX, SAMPLE, x -> x.insert(1, 5, 6));
            refused(INDEX, SAMPLE, x -> x.insert(1, -1, 6));
        });
        says("Throws IllegalStateException if it has 60 words", () -> {
            refused(STATE, () -> Room.ofMany(1, 60), x -> x.insert(0, 0, 6));
            taken(() -> Room.ofMany(1, 60), x -> x.insert(1, 0, 6));
            refused(STATE, FULL, x -> x.insert(0, 0, 6));
            refused(STATE, FULL, x -> x.insert(0, 59, 6));
            refused(STATE, FULL, x -> x.insert(0, 60, 6));
            taken(() -> Room.ofMany(1, 59), x -> x.insert(0, 0, 6));
        });
    }

    private static void set() {
        changes(6);
        says("Puts another word at a place of a text.", () -> {
            WordConcordance x = of(1, 2, 3);
            x.set(0, 0, 99);
            x.set(0, 2, 0);
            is("the first and the last one", words(x, 0), "[99, 2, 0]");
            x.set(0, 1, 2);
            is("the same one", words(x, 0), "[99, 2, 0]");
            WordConcordance y = Room.ofMany(1, 60);
            y.set(0, 59, 8);
            is("in a full text", y.at(0, 58) + " " + y.at(0, 59), "1 8");
        });
        text(FULL, (x, text) -> x.set(text, 0, 5));
        places("place: a place of it", (x, text, place) -> x.set(text, place, 6));
        word(FULL, (x, word) -> x.set(0, 0, word));
        says("Returns the word before.", () -> {
            done(ONE, 8, 2, x -> x.set(2, 0, 9));
            told(ONE, 8, x -> x.set(2, 0, 8));
            done(SAMPLE, 3, 1, x -> x.set(1, 3, 9));
            done(Room::counted, 0, 0, x -> x.set(0, 0, 99));
            done(Room::counted, 59, 0, x -> x.set(0, 59, 99));
            WordConcordance x = of(1, 99, 0);
            is("the first one", x.set(0, 0, 7), 1);
            is("the next one", x.set(0, 1, 8), 99);
            is("the last one", x.set(0, 2, 9), 0);
            is("the one that was set", x.set(0, 0, 7), 7);
        });
        says("Throws IndexOutOfBoundsException if there is no such text, place or word", () -> {
            refused(INDEX, SAMPLE, x -> x.set(4, 0, 0));
            refused(INDEX, SAMPLE, x -> x.set(-1, 0, 0));
            refused(INDEX, SAMPLE, x -> x.set(1, 4, 0));
            refused(INDEX, SAMPLE, x -> x.set(1, -1, 0));
            refused(INDEX, SAMPLE, x -> x.set(1, 3, 100));
            refused(INDEX, SAMPLE, x -> x.set(1, 3, -1));
            refused(INDEX, SAMPLE, x -> x.set(2, 0, 0));
            refused(INDEX, FULL, x -> x.set(0, 60, 0));
        });
    }

    private static void remove() {
        changes(7);
        says("Removes the word at a place of a text.", () -> {
            WordConcordance x = of(1, 2, 3, 4);
            x.remove(0, 1);
            is("between", words(x, 0), "[1, 3, 4]");
            x.remove(0, 2);
            is("the last one", words(x, 0), "[1, 3]");
            x.remove(0, 0);
            is("the first one", words(x, 0), "[3]");
            x.remove(0, 0);
            is("the only one", words(x, 0), "[]");
            WordConcordance y = Room.FULL.open();
            int last = y.at(3, 59);
            y.remove(3, 0);
            is("of a full text", y.size(3) + " " + y.at(3, 58), "59 " + last);
        });
        text(FULL, (x, text) -> x.remove(text, 0));
        places("place: a place of it", (x, text, place) -> x.remove(text, place));
        says("Returns the word.", () -> {
            done(ONE, 9, 3, x -> x.remove(3, 0));
            done(SAMPLE, 7, 1, x -> x.remove(1, 1));
            done(Room::counted, 0, 0, x -> x.remove(0, 0));
            done(Room::counted, 59, 0, x -> x.remove(0, 59));
            WordConcordance x = of(1, 99, 0, 4);
            is("between", x.remove(0, 1), 99);
            is("the last one", x.remove(0, 2), 4);
            is("the first one", x.remove(0, 0), 1);
            is("the only one", x.remove(0, 0), 0);
        });
        says("Throws IndexOutOfBoundsException if there is no such text or place", () -> {
            refused(INDEX, SAMPLE, x -> x.remove(4, 0));
            refused(INDEX, SAMPLE, x -> x.remove(-1, 0));
            refused(INDEX, SAMPLE, x -> x.remove(1, 4));
            refused(INDEX, SAMPLE, x -> x.remove(1, -1));
            refused(INDEX, SAMPLE, x -> x.remove(2, 0));
            refused(INDEX, FULL, x -> x.remove(0, 60));
        });
    }

    private static void cut() {
        changes(8);
        says("Removes a part of a text.", () -> {
            WordConcordance x = of(1, 2, 3, 4, 5, 6);
            x.cut(0, 1, 3);
            is("between", words(x, 0), "[1, 4, 5, 6]");
            x.cut(0, 2, 2);
            x.cut(0, 0, 0);
            x.cut(0, 4, 4);
            is("no words", words(x, 0), "[1, 4, 5, 6]");
            x.cut(0, 3, 4);
            is("at the end", words(x, 0), "[1, 4, 5]");
            x.cut(0, 0, 1);
            is("at the beginning", words(x, 0), "[4, 5]");
            x.cut(0, 0, 2);
            is("all", words(x, 0), "[]");
            x.add(0, 7);
            is("what is added then", words(x, 0), "[7]");
        });
        says("Removes a part of a text.", () -> {
            WordConcordance x = Room.ofMany(9, 60);
            x.addMany(1, 9, 60);
            x.cut(0, 1, 60);
            x.cut(1, 0, 60);
            x.add(2, 9);
            WordConcordance y = of(9);
            y.add(2, 9);
            is("what is left is as if there had been no more", answers(x), answers(y));
        });
        text(FULL, (x, text) -> x.cut(text, 0, 60));
        part((x, text, from, to) -> x.cut(text, from, to));
        says("Returns how many words the text has then.", () -> {
            done(ONE, 0, 2, x -> x.cut(2, 0, 1));
            told(ONE, 1, x -> x.cut(2, 1, 1));
            told(EMPTY, 0, x -> x.cut(0, 0, 0));
            done(FULL, 0, 3, x -> x.cut(3, 0, 60));
            done(FULL, 59, 0, x -> x.cut(0, 59, 60));
            told(FULL, 60, x -> x.cut(1, 0, 0));
            done(Room::counted, 1, 0, x -> x.cut(0, 1, 60));
            WordConcordance x = Room.FULL.open();
            is("none of a full text", x.cut(0, 60, 60), 60);
            is("one of a full text", x.cut(0, 59, 60), 59);
            is("all but one", x.cut(0, 0, 58), 1);
            is("the last one", x.cut(0, 0, 1), 0);
            is("none of none", x.cut(0, 0, 0), 0);
            is("a full text", x.cut(1, 0, 60), 0);
        });
        says("Throws IndexOutOfBoundsException if there is no such text or part", () -> {
            refused(INDEX, SAMPLE, x -> x.cut(4, 0, 0));
            refused(INDEX, SAMPLE, x -> x.cut(-1, 0, 0));
            noParts((x, text, from, to) -> x.cut(text, from, to));
        });
    }

    private static String answers(WordConcordance x) {
        StringBuilder all = new StringBuilder();
        for (int text = 0; text < 3; text++) {
            int one = text;
            Check.Call[] calls = {z -> z.size(one), z -> z.at(one, 0), z -> z.at(one, 1), z -> z.digest(one), z -> z.find(one),
                z -> z.findLast(one), z -> z.count(one, false), z -> z.count(one, true), z -> z.frequency(one, 9),
                z -> z.different(one), z -> z.most(one), z -> z.isApart(one, 2), z -> z.isApart(2, one), z -> z.alone(one, 3),
                z -> z.alone(2, one), z -> z.greatest(one, BY_NUMBER), z -> z.least(one, BY_NUMBER), z -> z.isSorted(one, BY_NUMBER),
                z -> z.search(one, BY_NUMBER, 9), z -> z.search(one, BY_NUMBER, 10), z -> z.stands(9, one), z -> z.near(one, 0, 9),
                z -> z.common(one, 2, 0), z -> z.common(2, one, 0), z -> z.errors(one), z -> z.meanWord(one), z -> z.share(one, 9)};
            for (Check.Call call : calls) {
                all.append(Check.answer(x, call)).append(' ');
            }
        }
        return all.toString();
    }

    private static void size() {
        asks(9);
        says("Returns the number of words of a text.", () -> {
            told(SAMPLE, 60, x -> x.size(0));
            told(SAMPLE, 4, x -> x.size(1));
            told(SAMPLE, 0, x -> x.size(2));
            kept(SAMPLE, x -> x.size(2));
            kept(ONE, x -> x.size(0));
            kept(FULL, x -> x.size(3));
            kept(EMPTY, x -> x.size(0));
        });
        text(FULL, (x, text) -> x.size(text));
        says("Returns how many there are.", () -> {
            told(ONE, 1, x -> x.size(2));
            told(EMPTY, 0, x -> x.size(3));
            told(FULL, 60, x -> x.size(3));
            told(() -> of(0), 1, x -> x.size(0));
        });
        says("Throws IndexOutOfBoundsException if there is no such text", () -> {
            refused(INDEX, SAMPLE, x -> x.size(4));
            refused(INDEX, SAMPLE, x -> x.size(-1));
        });
    }

    private static void at() {
        asks(10);
        says("Returns a word of a text.", () -> {
            told(SAMPLE, 5, x -> x.at(1, 0));
            told(SAMPLE, 7, x -> x.at(1, 1));
            told(SAMPLE, 1, x -> x.at(3, 0));
            kept(SAMPLE, x -> x.at(3, 0));
            kept(ONE, x -> x.at(0, 0));
            kept(FULL, x -> x.at(3, 59));
            kept(() -> of(4), x -> x.at(0, 0));
        });
        text(FULL, (x, text) -> x.at(text, 0));
        places("place: a place of it", (x, text, place) -> x.at(text, place));
        says("Returns the word.", () -> {
            told(ONE, 9, x -> x.at(3, 0));
            told(Room::counted, 59, x -> x.at(0, 59));
            told(SAMPLE, 38, x -> x.at(0, 0));
            told(SAMPLE, 3, x -> x.at(1, 3));
            told(() -> Room.ofMany(99, 60), 99, x -> x.at(0, 59));
            told(() -> of(0), 0, x -> x.at(0, 0));
        });
        says("Throws IndexOutOfBoundsException if there is no such text or place", () -> {
            refused(INDEX, SAMPLE, x -> x.at(4, 0));
            refused(INDEX, SAMPLE, x -> x.at(-1, 0));
            refused(INDEX, SAMPLE, x -> x.at(1, 4));
            refused(INDEX, SAMPLE, x -> x.at(1, -1));
            refused(INDEX, SAMPLE, x -> x.at(2, 0));
            refused(INDEX, FULL, x -> x.at(0, 60));
            WordConcordance cut = of(1, 2, 3);
            cut.remove(0, 0);
            is("a place that is no more", Check.answer(cut, x -> x.at(0, 2)), INDEX.getName());
        });
    }

    private static void digest() {
        asks(11);
        says("Returns a digest of a text: 7 at first, then, for each of its words in their order, 31 times as much, plus the word, "
            + "modulo 2^32 (as an int).", () -> {
            told(EMPTY, 7, x -> x.digest(0));
            told(() -> of(0), 217, x -> x.digest(0));
            told(() -> of(99), 316, x -> x.digest(0));
            told(() -> of(1, 2), 6760, x -> x.digest(0));
            told(() -> of(2, 1), 6790, x -> x.digest(0));
            for (int many = 1; many <= 60; many++) {
                int words = many;
                told(() -> Room.ofMany(99, words), digestOf(99, many), x -> x.digest(0));
            }
        });
        text(FULL, (x, text) -> x.digest(text));
        says("Returns this.", () -> {
            told(ONE, 226, x -> x.digest(3));
            told(SAMPLE, 7, x -> x.digest(2));
            // The sums are 2^31 and 2^33, each with the number before it.
            told(() -> of(8, 0, 29, 29, 5, 5), GREATEST, x -> x.digest(0));
            told(() -> of(8, 0, 29, 29, 5, 6), LEAST, x -> x.digest(0));
            told(() -> of(83, 1, 8, 28, 17, 7), -1, x -> x.digest(0));
            told(() -> of(83, 1, 8, 28, 17, 8), 0, x -> x.digest(0));
            told(() -> Room.ofMany(99, 60), digestOf(99, 60), x -> x.digest(0));
        });
        says("Throws IndexOutOfBoundsException if there is no such text", () -> {
            refused(INDEX, SAMPLE, x -> x.digest(4));
            refused(INDEX, SAMPLE, x -> x.digest(-1));
        });
    }

    private static int digestOf(int word, int many) {
        BigInteger sum = BigInteger.valueOf(7);
        for (int i = 0; i < many; i++) {
            sum = sum.multiply(BigInteger.valueOf(31)).add(BigInteger.valueOf(word)).mod(BigInteger.TWO.pow(32));
        }
        return sum.intValue();
    }

    private static void setRank() {
        changes(12);
        says("Sets the rank of a word.", () -> {
            WordConcordance x = of(4, 6);
            x.setRank(4, 5);
            is("the greatest rank", x.greatest(0, BY_RANK), 5);
            is("the least rank", x.least(0, BY_RANK), 0);
            x.setRank(6, -9);
            is("the least rank then", x.least(0, BY_RANK), -9);
            x.setRank(4, 0);
            is("the greatest rank then", x.greatest(0, BY_RANK), 0);
        });
        word(ONE, (x, word) -> x.setRank(word, 3));
        says("rank: -9 to 9", () -> {
            limits(ARGUMENT, EMPTY, -9, 9, (x, rank) -> x.setRank(0, rank));
            limits(ARGUMENT, SAMPLE, -9, 9, (x, rank) -> x.setRank(5, rank));
            limits(ARGUMENT, FULL, -9, 9, (x, rank) -> x.setRank(99, rank));
        });
        says("Returns its rank before.", () -> {
            done(EMPTY, 0, RANKS_PART, x -> x.setRank(0, 1));
            done(ONE, 2, RANKS_PART, x -> x.setRank(7, 3));
            told(ONE, 2, x -> x.setRank(7, 2));
            done(FULL, 9, RANKS_PART, x -> x.setRank(99, -9));
            done(FULL, -9, RANKS_PART, x -> x.setRank(0, 9));
            WordConcordance x = new WordConcordance();
            is("at first", x.setRank(0, -9), 0);
            is("then", x.setRank(0, 9), -9);
            is("once more", x.setRank(0, 9), 9);
            is("the same one", x.setRank(0, 0), 9);
            is("another word's", x.setRank(99, 4), 0);
            is("the other word's then", x.setRank(99, 4), 4);
        });
        says("Throws IndexOutOfBoundsException if there is no such word", () -> {
            refused(INDEX, SAMPLE, x -> x.setRank(100, 0));
            refused(INDEX, SAMPLE, x -> x.setRank(-1, 0));
            refused(INDEX, SAMPLE, x -> x.setRank(100, -10));
        });
        says("Throws IllegalArgumentException if rank is out of range", () -> {
            refused(ARGUMENT, SAMPLE, x -> x.setRank(5, 10));
            refused(ARGUMENT, SAMPLE, x -> x.setRank(5, -10));
            refused(ARGUMENT, SAMPLE, x -> x.setRank(0, GREATEST));
            refused(ARGUMENT, SAMPLE, x -> x.setRank(99, LEAST));
        });
    }
}
