/** Promises 33 to 37: words and parts of texts turned, moved, swapped, filled and copied. */
final class PartSentences extends Sentences {
    private PartSentences() {
    }

    static void all() {
        turn();
        move();
        distances();
        swap();
        fill();
        copy();
        refusedCopy();
    }

    private static void turn() {
        changes(33);
        says("Turns the order of the words of a part of a text round.", () -> {
            WordConcordance x = of(1, 2, 3, 4, 5);
            x.turn(0, 1, 4);
            is("three words", words(x, 0), "[1, 4, 3, 2, 5]");
            x.turn(0, 1, 5);
            is("four words", words(x, 0), "[1, 5, 2, 3, 4]");
            x.turn(0, 0, 5);
            is("all words", words(x, 0), "[4, 3, 2, 5, 1]");
            x.turn(0, 0, 2);
            is("two words", words(x, 0), "[3, 4, 2, 5, 1]");
            x.turn(0, 2, 3);
            x.turn(0, 5, 5);
            x.turn(0, 0, 0);
            is("one word and none", words(x, 0), "[3, 4, 2, 5, 1]");
            WordConcordance y = Room.counted();
            y.turn(0, 0, 60);
            is("a full text", y.at(0, 0) + " " + y.at(0, 29) + " " + y.at(0, 30) + " " + y.at(0, 59), "59 30 29 0");
        });
        text(FULL, (x, text) -> x.turn(text, 0, 60));
        part((x, text, from, to) -> x.turn(text, from, to));
        says("Returns how many words the part has.", () -> {
            told(ONE, 1, x -> x.turn(0, 0, 1));
            told(EMPTY, 0, x -> x.turn(3, 0, 0));
            done(Room::counted, 60, 0, x -> x.turn(0, 0, 60));
            done(SAMPLE, 3, 1, x -> x.turn(1, 1, 4));
            is("two", of(1, 2, 3).turn(0, 1, 3), 2);
            told(SAMPLE, 0, x -> x.turn(1, 4, 4));
            told(SAMPLE, 1, x -> x.turn(1, 3, 4));
            told(SAMPLE, 0, x -> x.turn(2, 0, 0));
            is("all of a full text", Room.FULL.open().turn(0, 0, 60), 60);
            told(FULL, 0, x -> x.turn(0, 60, 60));
        });
        says("Throws IndexOutOfBoundsException if there is no such text or part", () -> {
            refused(INDEX, SAMPLE, x -> x.turn(4, 0, 0));
            refused(INDEX, SAMPLE, x -> x.turn(-1, 0, 0));
            noParts((x, text, from, to) -> x.turn(text, from, to));
        });
    }

    private static void move() {
        changes(34);
        says("Moves the words of a part of a text round: each one goes up by some places, and what would go out of the part at its end "
            + "comes in again at its beginning; with a distance below 0 the other way.", () -> {
            WordConcordance x = of(1, 2, 3, 4, 5);
            x.move(0, 0, 5, 2);
            is("up by two", words(x, 0), "[4, 5, 1, 2, 3]");
            x.move(0, 0, 5, -1);
            is("down by one", words(x, 0), "[5, 1, 2, 3, 4]");
            x.move(0, 1, 4, 4);
            is("a part", words(x, 0), "[5, 3, 1, 2, 4]");
            x.move(0, 1, 4, -2);
            is("a part down by two", words(x, 0), "[5, 2, 3, 1, 4]");
            x.move(0, 0, 5, 0);
            x.move(0, 0, 5, 5);
            x.move(0, 0, 5, -5);
            x.move(0, 2, 3, 7);
            x.move(0, 5, 5, 1);
            is("by none, once round, one word, and no words", words(x, 0), "[5, 2, 3, 1, 4]");
            WordConcordance y = Room.counted();
            y.move(0, 0, 60, 1);
            is("a full text", y.at(0, 0) + " " + y.at(0, 1) + " " + y.at(0, 59), "59 0 58");
        });
        text(FULL, (x, text) -> x.move(text, 0, 60, 1));
        part((x, text, from, to) -> x.move(text, from, to, 1));
        says("Returns by how many places each one went up, 0 or more and less than the number of words of the part; 0 if it has none.",
            () -> {
            is("up by one", of(1, 2, 3).move(0, 0, 3, 1), 1);
            is("up by all but one", of(1, 2, 3).move(0, 0, 3, 2), 2);
            told(SAMPLE, 0, x -> x.move(1, 0, 3, 3));
            is("once round and one more", of(1, 2, 3).move(0, 0, 3, 4), 1);
            told(SAMPLE, 0, x -> x.move(1, 0, 3, 0));
            is("down by one", of(1, 2, 3).move(0, 0, 3, -1), 2);
            is("down by all but one", of(1, 2, 3).move(0, 0, 3, -2), 1);
            told(SAMPLE, 0, x -> x.move(1, 0, 3, -3));
            told(SAMPLE, 0, x -> x.move(1, 4, 4, 1));
            told(SAMPLE, 0, x -> x.move(2, 0, 0, -1));
            told(SAMPLE, 0, x -> x.move(1, 2, 3, 1));
            told(ONE, 0, x -> x.move(0, 0, 1, 1));
            done(SAMPLE, 1, 1, x -> x.move(1, 1, 4, 1));
            done(FULL, 1, 3, x -> x.move(3, 0, 60, 61));
            done(Room::counted, 59, 0, x -> x.move(0, 0, 60, 59));
            is("a full text down by one", Room.counted().move(0, 0, 60, -1), 59);
        });
        says("Throws IndexOutOfBoundsException if there is no such text or part", () -> {
            refused(INDEX, SAMPLE, x -> x.move(4, 0, 0, 1));
            refused(INDEX, SAMPLE, x -> x.move(-1, 0, 0, 1));
            noParts((x, text, from, to) -> x.move(text, from, to, 1));
            noParts((x, text, from, to) -> x.move(text, from, to, LEAST));
        });
    }

    private static void distances() {
        says("distance: any number", () -> {
            limits(INDEX, SAMPLE, LEAST, GREATEST, (x, distance) -> x.move(1, 0, 4, distance));
            limits(INDEX, SAMPLE, LEAST, GREATEST, (x, distance) -> x.move(2, 0, 0, distance));
            told(EMPTY, 0, x -> x.move(0, 0, 0, LEAST));
            told(EMPTY, 0, x -> x.move(0, 0, 0, GREATEST));
            told(SAMPLE, 0, x -> x.move(1, 1, 2, LEAST));
            told(SAMPLE, 0, x -> x.move(1, 1, 2, GREATEST));
            WordConcordance x = of(1, 2, 3, 4, 5);
            is("the least number", x.move(0, 0, 5, LEAST), 2);
            is("the text", words(x, 0), "[4, 5, 1, 2, 3]");
            is("the greatest number", x.move(0, 0, 5, GREATEST), 2);
            is("the text then", words(x, 0), "[2, 3, 4, 5, 1]");
            is("the least number in a later part", x.move(0, 2, 5, LEAST), 1);
            is("the text at last", words(x, 0), "[2, 3, 1, 4, 5]");
            for (int many = 1; many <= 60; many++) {
                for (int distance : new int[] {LEAST, LEAST + 1, -61, -60, -59, 59, 60, 61, GREATEST - 1, GREATEST}) {
                    WordConcordance y = Room.counted();
                    int up = (int) Math.floorMod((long) distance, (long) many);
                    is(many + " words by " + distance, y.move(0, 60 - many, 60, distance), up);
                    is("the place of the first of " + many, y.at(0, 60 - many + up), 60 - many);
                }
            }
        });
    }

    private static void swap() {
        changes(35);
        says("Exchanges the words at two places of a text.", () -> {
            WordConcordance x = of(1, 2, 3);
            x.swap(0, 0, 2);
            is("the first and the last one", words(x, 0), "[3, 2, 1]");
            x.swap(0, 1, 1);
            is("one with itself", words(x, 0), "[3, 2, 1]");
            x.swap(0, 2, 1);
            is("downwards", words(x, 0), "[3, 1, 2]");
            WordConcordance y = Room.counted();
            y.swap(0, 59, 0);
            is("in a full text", y.at(0, 0) + " " + y.at(0, 1) + " " + y.at(0, 58) + " " + y.at(0, 59), "59 1 58 0");
        });
        text(FULL, (x, text) -> x.swap(text, 0, 59));
        places("one: a place of it", (x, text, place) -> x.swap(text, place, 0));
        places("other: a place of it", (x, text, place) -> x.swap(text, 0, place));
        says("Returns the word that stands at the place one then.", () -> {
            told(ONE, 7, x -> x.swap(0, 0, 0));
            done(SAMPLE, 7, 1, x -> x.swap(1, 0, 1));
            done(Room::counted, 59, 0, x -> x.swap(0, 0, 59));
            done(Room::counted, 0, 0, x -> x.swap(0, 59, 0));
            is("the last one", of(1, 2, 3).swap(0, 0, 2), 3);
            is("the first one", of(1, 2, 3).swap(0, 2, 0), 1);
            told(SAMPLE, 3, x -> x.swap(1, 3, 3));
            told(SAMPLE, 5, x -> x.swap(1, 0, 2));
        });
        says("Throws IndexOutOfBoundsException if there is no such text or place", () -> {
            refused(INDEX, SAMPLE, x -> x.swap(4, 0, 0));
            refused(INDEX, SAMPLE, x -> x.swap(-1, 0, 0));
            refused(INDEX, SAMPLE, x -> x.swap(1, 4, 0));
            refused(INDEX, SAMPLE, x -> x.swap(1, -1, 0));
            refused(INDEX, SAMPLE, x -> x.swap(1, 0, 4));
            refused(INDEX, SAMPLE, x -> x.swap(1, 0, -1));
            refused(INDEX, SAMPLE, x -> x.swap(1, 4, 4));
            refused(INDEX, SAMPLE, x -> x.swap(1, -1, -1));
            refused(INDEX, SAMPLE, x -> x.swap(2, 0, 0));
            refused(INDEX, FULL, x -> x.swap(0, 60, 60));
        });
    }

    private static void fill() {
        changes(36);
        says("Puts a word at all places of a part of a text.", () -> {
            WordConcordance x = of(1, 2, 3, 2, 5);
            x.fill(0, 1, 4, 7);
            is("a part", words(x, 0), "[1, 7, 7, 7, 5]");
            x.fill(0, 5, 5, 9);
            x.fill(0, 0, 0, 9);
            is("no words", words(x, 0), "[1, 7, 7, 7, 5]");
            x.fill(0, 4, 5, 99);
            is("the last one", words(x, 0), "[1, 7, 7, 7, 99]");
            x.fill(0, 0, 5, 0);
            is("all", words(x, 0), "[0, 0, 0, 0, 0]");
            WordConcordance y = Room.counted();
            y.fill(0, 0, 60, 99);
            is("a full text", y.frequency(0, 99), 60);
        });
        text(FULL, (x, text) -> x.fill(text, 0, 60, 5));
        part((x, text, from, to) -> x.fill(text, from, to, 8));
        word(FULL, (x, word) -> x.fill(0, 0, 60, word));
        says("Returns how many of these places had another word.", () -> {
            done(ONE, 1, 3, x -> x.fill(3, 0, 1, 5));
            told(ONE, 0, x -> x.fill(3, 0, 1, 9));
            told(EMPTY, 0, x -> x.fill(3, 0, 0, 9));
            done(SAMPLE, 1, 3, x -> x.fill(3, 1, 4, 2));
            done(Room::counted, 59, 0, x -> x.fill(0, 0, 60, 59));
            is("but one", of(1, 2, 3).fill(0, 0, 3, 2), 2);
            is("within the part", of(1, 2, 3).fill(0, 1, 3, 2), 1);
            is("all", of(1, 2, 3).fill(0, 0, 3, 4), 3);
            told(() -> of(4, 4), 0, x -> x.fill(0, 0, 2, 4));
            told(SAMPLE, 0, x -> x.fill(1, 4, 4, 9));
            told(SAMPLE, 0, x -> x.fill(2, 0, 0, 9));
            is("a full text", Room.counted().fill(0, 0, 60, 99), 60);
        });
        says("Throws IndexOutOfBoundsException if there is no such text, part or word", () -> {
            refused(INDEX, SAMPLE, x -> x.fill(4, 0, 0, 0));
            refused(INDEX, SAMPLE, x -> x.fill(-1, 0, 0, 0));
            refused(INDEX, SAMPLE, x -> x.fill(1, 0, 4, 100));
            refused(INDEX, SAMPLE, x -> x.fill(1, 0, 4, -1));
            refused(INDEX, SAMPLE, x -> x.fill(1, 4, 4, 100));
            refused(INDEX, SAMPLE, x -> x.fill(2, 0, 0, -1));
            noParts((x, text, from, to) -> x.fill(text, from, to, 9));
        });
    }

    private static void copy() {
        changes(37);
        says("Puts the words of a text at the first places of another one; those behind them stay.", () -> {
            WordConcordance x = of(1, 2);
            Room.put(x, 1, 7, 8, 9);
            x.copy(0, 1);
            is("both", words(x, 0) + words(x, 1), "[1, 2][1, 2, 9]");
            x.copy(2, 1);
            x.copy(1, 1);
            is("no words, and on itself", words(x, 0) + words(x, 1), "[1, 2][1, 2, 9]");
            x.cut(1, 2, 3);
            x.set(0, 0, 50);
            x.copy(0, 1);
            is("as many", words(x, 1), "[50, 2]");
            x.set(0, 1, 60);
            is("after the first one is changed", words(x, 1), "[50, 2]");
            WordConcordance y = Room.FULL.open();
            y.copy(3, 0);
            is("full texts", words(y, 0), words(Room.FULL.open(), 3));
        });
        one(FULL, (x, one) -> x.copy(one, 3));
        says("to: number of the other one", () -> numbers(FULL, 0, 3, (x, to) -> x.copy(0, to)));
        says("Returns how many words the other one has.", () -> {
            done(ONE, 1, 3, x -> x.copy(0, 3));
            told(ONE, 1, x -> x.copy(0, 1));
            told(EMPTY, 0, x -> x.copy(0, 1));
            done(SAMPLE, 60, 0, x -> x.copy(3, 0));
            done(SAMPLE, 4, 3, x -> x.copy(1, 3));
            done(FULL, 60, 2, x -> x.copy(1, 2));
            WordConcordance x = of(1, 2);
            Room.put(x, 1, 7, 8, 9);
            is("more", x.copy(0, 1), 3);
            is("no words", x.copy(2, 1), 3);
            is("no words on no words", x.copy(2, 3), 0);
            is("on itself", x.copy(1, 1), 3);
            x.remove(1, 0);
            is("as many", x.copy(0, 1), 2);
            told(FULL, 60, y -> y.copy(3, 3));
            is("on a full text", Room.SAMPLE.open().copy(1, 0), 60);
        });
    }

    private static void refusedCopy() {
        says("Throws IndexOutOfBoundsException if there is no such text", () -> {
            refused(INDEX, SAMPLE, x -> x.copy(4, 0));
            refused(INDEX, SAMPLE, x -> x.copy(-1, 0));
            refused(INDEX, SAMPLE, x -> x.copy(0, 4));
            refused(INDEX, SAMPLE, x -> x.copy(0, -1));
        });
        says("Throws IllegalStateException if the other one has fewer words", () -> {
            refused(STATE, SAMPLE, x -> x.copy(0, 1));
            refused(STATE, SAMPLE, x -> x.copy(1, 2));
            Room fewer = () -> {
                WordConcordance x = Room.ofMany(1, 60);
                x.addMany(1, 2, 59);
                return x;
            };
            refused(STATE, fewer, x -> x.copy(0, 1));
            taken(fewer, x -> x.copy(1, 0));
            taken(SAMPLE, x -> x.copy(1, 3));
            taken(SAMPLE, x -> x.copy(2, 2));
        });
    }
}
