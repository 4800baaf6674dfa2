/** Promises 38 to 42: where words stand, what texts have in common, refusals and checks. */
final class PlaceSentences extends Sentences {
    private PlaceSentences() {
    }

    static void all() {
        stands();
        near();
        nearest();
        common();
        commonPlaces();
        refusedCommon();
        refuses();
        errors();
    }

    private static final Room SPREAD = () -> {
        WordConcordance x = of(4, 1, 4);
        Room.put(x, 2, 1, 4);
        x.addMany(3, 99, 60);
        return x;
    };

    private static final Room EACH_WORD = () -> {
        WordConcordance x = new WordConcordance();
        for (int word = 0; word < 100; word++) {
            x.add(word / 30, word);
        }
        return x;
    };

    /** Four full texts of one word. */
    private static final Room EVERYWHERE = () -> {
        WordConcordance x = new WordConcordance();
        for (int text = 0; text < 4; text++) {
            x.addMany(text, 7, 60);
        }
        return x;
    };

    private static void stands() {
        asks(38);
        says("Tells where a word stands, in all texts.", () -> {
            told(SPREAD, 0, x -> x.stands(4, 0));
            told(SPREAD, 2, x -> x.stands(4, 1));
            told(SPREAD, 201, x -> x.stands(4, 2));
            told(SPREAD, 300, x -> x.stands(99, 0));
        });
        word(EACH_WORD, (x, word) -> x.stands(word, 0));
        says("which: 0 for the first place of the first text in which it stands, and so on, by texts, then by places", () -> {
            limits(NO_ELEMENT, SPREAD, 0, 2, (x, which) -> x.stands(4, which));
            limits(NO_ELEMENT, SPREAD, 0, 1, (x, which) -> x.stands(1, which));
            limits(NO_ELEMENT, SPREAD, 0, 59, (x, which) -> x.stands(99, which));
            limits(NO_ELEMENT, EVERYWHERE, 0, 239, (x, which) -> x.stands(7, which));
            WordConcordance x = EVERYWHERE.open();
            for (int which = 0; which < 240; which++) {
                is("the one with the number " + which, x.stands(7, which), which / 60 * 100 + which % 60);
            }
        });
        says("Returns 100 times the number of the text, plus the place.", () -> {
            told(ONE, 0, x -> x.stands(7, 0));
            told(ONE, 100, x -> x.stands(7, 1));
            told(ONE, 300, x -> x.stands(9, 0));
            told(Room::counted, 59, x -> x.stands(59, 0));
            told(SPREAD, 1, x -> x.stands(1, 0));
            told(SPREAD, 200, x -> x.stands(1, 1));
            told(EVERYWHERE, 59, x -> x.stands(7, 59));
            told(EVERYWHERE, 100, x -> x.stands(7, 60));
            told(EVERYWHERE, 359, x -> x.stands(7, 239));
        });
        says("Throws IndexOutOfBoundsException if there is no such word", () -> {
            refused(INDEX, SAMPLE, x -> x.stands(100, 0));
            refused(INDEX, SAMPLE, x -> x.stands(-1, 0));
            refused(INDEX, EMPTY, x -> x.stands(100, -1));
        });
        says("Throws NoSuchElementException if there is no such place", () -> {
            refused(NO_ELEMENT, ONE, x -> x.stands(7, 2));
            refused(NO_ELEMENT, ONE, x -> x.stands(9, -1));
            refused(NO_ELEMENT, SAMPLE, x -> x.stands(7, GREATEST));
            refused(NO_ELEMENT, FULL, x -> x.stands(0, 240));
            refused(NO_ELEMENT, EMPTY, x -> x.stands(0, 0));
            refused(NO_ELEMENT, SPREAD, x -> x.stands(5, 0));
            refused(NO_ELEMENT, SPREAD, x -> x.stands(4, 3));
            refused(NO_ELEMENT, SPREAD, x -> x.stands(4, -1));
            refused(NO_ELEMENT, EMPTY, x -> x.stands(0, -1));
            refused(NO_ELEMENT, EMPTY, x -> x.stands(99, LEAST));
            refused(NO_ELEMENT, EMPTY, x -> x.stands(99, GREATEST));
            WordConcordance x = of(3, 3);
            x.remove(0, 0);
            is("a place that is no more", Check.answer(x, z -> z.stands(3, 1)), NO_ELEMENT.getName());
        });
    }

    private static final Room ROUND = () -> of(8, 1, 2, 8, 3, 8);

    private static void near() {
        asks(39);
        says("Finds the place of a word that is nearest to a place of a text.", () -> {
            told(ROUND, 3, x -> x.near(0, 3, 8));
            told(ROUND, 3, x -> x.near(0, 2, 8));
            told(ROUND, 0, x -> x.near(0, 1, 8));
            told(ROUND, 4, x -> x.near(0, 0, 3));
            told(ROUND, 1, x -> x.near(0, 5, 1));
        });
        text(FULL, (x, text) -> x.near(text, 0, 5));
        places("place: a place of it", (x, text, place) -> x.near(text, place, 5));
        word(FULL, (x, word) -> x.near(0, 0, word));
    }

    private static void nearest() {
        says("Returns its place, of two as near the lesser one; NONE if there is none.", () -> {
            told(ONE, 0, x -> x.near(3, 0, 9));
            told(ONE, -1, x -> x.near(3, 0, 8));
            told(Room::counted, 59, x -> x.near(0, 0, 59));
            told(ROUND, 3, x -> x.near(0, 4, 8));
            told(() -> of(8, 1, 8), 0, x -> x.near(0, 1, 8));
            told(() -> of(8, 8, 8), 1, x -> x.near(0, 1, 8));
            told(() -> of(8, 1, 1, 8), 0, x -> x.near(0, 1, 8));
            told(() -> of(8, 1, 1, 8), 3, x -> x.near(0, 2, 8));
            told(ROUND, -1, x -> x.near(0, 5, 9));
            told(() -> of(0), 0, x -> x.near(0, 0, 0));
            told(() -> of(0), -1, x -> x.near(0, 0, 99));
            Room ends = () -> {
                WordConcordance x = Room.ofMany(1, 60);
                x.set(0, 0, 2);
                x.set(0, 59, 3);
                return x;
            };
            told(ends, 59, x -> x.near(0, 0, 3));
            told(ends, 0, x -> x.near(0, 59, 2));
            Room wide = () -> {
                WordConcordance x = Room.ofMany(1, 60);
                x.set(0, 0, 2);
                x.set(0, 58, 2);
                return x;
            };
            told(wide, 0, x -> x.near(0, 29, 2));
            told(wide, 58, x -> x.near(0, 30, 2));
            told(wide, 58, x -> x.near(0, 59, 2));
            WordConcordance x = of(1, 2);
            x.remove(0, 1);
            is("one that was removed", x.near(0, 0, 2), -1);
        });
        says("Throws IndexOutOfBoundsException if there is no such text, place or word", () -> {
            refused(INDEX, SAMPLE, x -> x.near(4, 0, 0));
            refused(INDEX, SAMPLE, x -> x.near(-1, 0, 0));
            refused(INDEX, SAMPLE, x -> x.near(1, 4, 5));
            refused(INDEX, SAMPLE, x -> x.near(1, -1, 5));
            refused(INDEX, SAMPLE, x -> x.near(2, 0, 5));
            refused(INDEX, SAMPLE, x -> x.near(1, 0, 100));
            refused(INDEX, SAMPLE, x -> x.near(1, 0, -1));
            refused(INDEX, FULL, x -> x.near(0, 60, 5));
        });
    }

    private static String common(WordConcordance x, int one, int other) {
        return x.common(one, other, 0) + " " + x.common(one, other, 1) + " " + x.common(one, other, 2);
    }

    private static WordConcordance two(int[] one, int... other) {
        WordConcordance x = of(one);
        Room.put(x, 1, other);
        return x;
    }

    private static int[] row(int... words) {
        return words;
    }

    private static void common() {
        asks(40);
        says("Finds the longest part of a text that stands in another one, too, of several the one that begins first.", () -> {
            is("between", common(two(row(1, 2, 3, 4), 9, 2, 3, 9), 0, 1), "2 1 1");
            is("the longest one", common(two(row(5, 0, 1, 2, 0, 3, 4, 5), 3, 4, 5, 9, 1, 2), 0, 1), "3 5 0");
            is("the one that begins first", common(two(row(7, 1, 2, 0, 3, 4), 3, 4, 9, 1, 2), 0, 1), "2 1 3");
            is("a row of one word", common(two(row(4, 4, 4), 4, 4), 0, 1), "2 0 0");
            told(Room.SAMPLE, 4, x -> x.common(1, 1, 0));
        });
        one(FULL, (x, one) -> x.common(one, 0, 0));
        says("other: number of the other one", () -> numbers(FULL, 0, 3, (x, other) -> x.common(0, other, 0)));
        says("what: 0 for how many words it has, 1 for where it begins in the first text, 2 for the first place at which it stands "
            + "in the other one", () -> {
            limits(ARGUMENT, EMPTY, 0, 2, (x, what) -> x.common(0, 1, what));
            limits(ARGUMENT, SAMPLE, 0, 2, (x, what) -> x.common(0, 3, what));
            Room room = () -> two(row(0, 1, 2), 1, 9, 1, 2, 0, 1, 2, 9, 0, 1, 2);
            told(room, 3, x -> x.common(0, 1, 0));
            told(room, 0, x -> x.common(0, 1, 1));
            told(room, 4, x -> x.common(0, 1, 2));
            told(room, 4, x -> x.common(1, 0, 1));
            told(room, 0, x -> x.common(1, 0, 2));
        });
    }

    private static void commonPlaces() {
        says("Returns this (0 each if they have no word in common).", () -> {
            told(ONE, 1, x -> x.common(0, 1, 0));
            told(ONE, 0, x -> x.common(0, 1, 2));
            told(ONE, 0, x -> x.common(0, 2, 0));
            told(ONE, 0, x -> x.common(3, 0, 1));
            told(FULL, 60, x -> x.common(3, 3, 0));
            told(Room::counted, 0, x -> x.common(0, 1, 0));
            told(EMPTY, 0, x -> x.common(0, 1, 2));
            is("no word in common", common(two(row(1, 2), 3, 4), 0, 1), "0 0 0");
            is("of no words", common(two(row(), 1, 2), 0, 1), "0 0 0");
            is("with no words", common(two(row(1, 2)), 0, 1), "0 0 0");
            is("no words with themselves", common(new WordConcordance(), 2, 2), "0 0 0");
            is("one word at the end", common(two(row(1, 2), 3, 4, 2), 0, 1), "1 1 2");
            is("one word twice", common(two(row(4, 4, 4), 1, 4, 4), 0, 1), "2 0 1");
            is("with itself", common(two(row(1, 1, 2)), 0, 0), "3 0 0");
            is("at both ends", common(two(row(0, 5, 6), 8, 9, 5, 6), 0, 1), "2 1 2");
            WordConcordance x = new WordConcordance();
            x.scatter(0, 60, 100, 9);
            x.add(1, 0);
            x.scatter(1, 59, 100, 9);
            is("full texts", common(x, 0, 1), "59 0 1");
            is("full texts, the other way", common(x, 1, 0), "59 1 0");
            is("a full text with itself", common(x, 0, 0), "60 0 0");
            x.cut(0, 3, 60);
            is("after a part is cut off", common(x, 0, 1), "3 0 1");
            x.cut(1, 2, 60);
            is("after a part of the other one is cut off", common(x, 0, 1), "1 0 1");
            WordConcordance y = two(row(3), 1, 2, 3);
            is("one word", common(y, 0, 1), "1 0 2");
            y.remove(1, 1);
            is("one word before the place where it stood", common(y, 0, 1), "1 0 1");
        });
    }

    private static void refusedCommon() {
        says("Throws IndexOutOfBoundsException if there is no such text", () -> {
            refused(INDEX, SAMPLE, x -> x.common(4, 0, 0));
            refused(INDEX, SAMPLE, x -> x.common(-1, 0, 0));
            refused(INDEX, SAMPLE, x -> x.common(0, 4, 0));
            refused(INDEX, SAMPLE, x -> x.common(0, -1, 0));
        });
        says("Throws IllegalArgumentException if what is out of range", () -> {
            refused(ARGUMENT, SAMPLE, x -> x.common(0, 1, 3));
            refused(ARGUMENT, SAMPLE, x -> x.common(0, 1, -1));
            refused(ARGUMENT, EMPTY, x -> x.common(0, 0, 3));
            refused(ARGUMENT, EMPTY, x -> x.common(0, 0, -1));
        });
    }

    private static void refuses() {
        asks(41);
        says("Tries what must be refused with a row of copies of one word that never changes.", () -> {
            for (Room room : new Room[] {EMPTY, ONE, SAMPLE, FULL}) {
                for (int what = 0; what <= 4; what++) {
                    int one = what;
                    told(room, true, x -> x.refuses(one));
                }
            }
        });
        says("what: 0 to put another word at its place 0, 1 to add a word, 2 to remove its place 0, 3 to ask for a place behind its end, "
            + "4 to make a row of -1 copies", () -> {
            limits(ARGUMENT, EMPTY, 0, 4, (x, what) -> x.refuses(what));
            limits(ARGUMENT, SAMPLE, 0, 4, (x, what) -> x.refuses(what));
            limits(ARGUMENT, FULL, 0, 4, (x, what) -> x.refuses(what));
        });
        says("Returns true, always.", () -> {
            WordConcordance x = Room.SAMPLE.open();
            for (int time = 0; time < 90; time++) {
                is("time " + time, x.refuses(time % 5), true);
            }
        });
        says("Throws IllegalArgumentException if what is out of range", () -> {
            refused(ARGUMENT, SAMPLE, x -> x.refuses(5));
            refused(ARGUMENT, SAMPLE, x -> x.refuses(-1));
        });
    }

    private static void errors() {
        asks(42);
        says("Checks what the theorem says about a text and the WANTED phrase, on copies; nothing changes.", () -> {
            for (Room room : new Room[] {EMPTY, ONE, SAMPLE, FULL, SPREAD, EVERYWHERE}) {
                for (int text = 0; text < 4; text++) {
                    int one = text;
                    told(room, 0, x -> x.errors(one));
                }
            }
        });
        text(FULL, (x, text) -> x.errors(text));
        says("Returns how many checks fail; always 0.", () -> {
            told(() -> wanting(row(), 1, 2), 0, x -> x.errors(0));
            told(() -> wanting(row()), 0, x -> x.errors(0));
            told(() -> wanting(row(1)), 0, x -> x.errors(0));
            told(() -> wanting(row(1, 2, 1), 1, 2, 1, 2, 1), 0, x -> x.errors(0));
            told(() -> wanting(row(3, 3), 3, 3, 3), 0, x -> x.errors(0));
            told(() -> wanting(row(3, 4, 5), 3, 4), 0, x -> x.errors(0));
            WordConcordance x = EVERYWHERE.open();
            x.quote(WANTED, 0, 48, 60);
            is("a full text of the twelve words", x.errors(3), 0);
        });
        says("Throws IndexOutOfBoundsException if there is no such text", () -> {
            refused(INDEX, SAMPLE, x -> x.errors(4));
            refused(INDEX, SAMPLE, x -> x.errors(-1));
        });
    }

    private static WordConcordance wanting(int[] wanted, int... words) {
        WordConcordance x = of(words);
        Room.say(x, WANTED, wanted);
        return x;
    }
}
