/** Promises 28 to 32: the greatest and the least, and texts sorted and searched. */
final class OrderSentences extends Sentences {
    private OrderSentences() {
    }

    static void all() {
        greatest();
        least();
        sort();
        alike();
        isSorted();
        search();
        searchPlaces();
        refusedSearch();
    }

    /** Rank -5 for 1, rank 4 for 2 and for 3, rank 0 for all others. */
    private static Room ranked(int... words) {
        return () -> {
            WordConcordance x = of(words);
            x.setRank(1, -5);
            x.setRank(2, 4);
            x.setRank(3, 4);
            return x;
        };
    }

    private static Room allWords(int many, int last) {
        return () -> {
            WordConcordance x = new WordConcordance();
            for (int i = 0; i < many; i++) {
                x.add(0, last - i);
            }
            return x;
        };
    }

    private static void greatest() {
        asks(28);
        says("Returns the greatest word of a text, or the greatest rank of its words.", () -> {
            told(ranked(2, 9, 1), 9, x -> x.greatest(0, BY_NUMBER));
            told(ranked(2, 9, 1), 4, x -> x.greatest(0, BY_RANK));
        });
        text(FULL, (x, text) -> x.greatest(text, BY_NUMBER));
        says("order: BY_NUMBER for the word, BY_RANK for the rank", () -> {
            told(ranked(3, 9), 9, x -> x.greatest(0, BY_NUMBER));
            told(ranked(3, 9), 4, x -> x.greatest(0, BY_RANK));
            limits(ARGUMENT, FULL, 0, 1, (x, order) -> x.greatest(0, order));
        });
        says("Returns this.", () -> {
            told(ONE, 9, x -> x.greatest(3, BY_NUMBER));
            told(ONE, 2, x -> x.greatest(0, BY_RANK));
            told(ONE, -2, x -> x.greatest(2, BY_RANK));
            told(Room::counted, 59, x -> x.greatest(0, BY_NUMBER));
            told(ranked(99, 0), 99, x -> x.greatest(0, BY_NUMBER));
            told(ranked(0, 99), 99, x -> x.greatest(0, BY_NUMBER));
            told(ranked(0), 0, x -> x.greatest(0, BY_NUMBER));
            told(ranked(1, 1), -5, x -> x.greatest(0, BY_RANK));
            told(ranked(2, 1, 1), 4, x -> x.greatest(0, BY_RANK));
            told(ranked(1, 1, 2), 4, x -> x.greatest(0, BY_RANK));
            told(allWords(60, 59), 59, x -> x.greatest(0, BY_NUMBER));
            WordConcordance x = Room.ofMany(7, 59);
            x.add(0, 8);
            x.setRank(7, -9);
            is("the last place of a full text", x.greatest(0, BY_NUMBER) + " " + x.greatest(0, BY_RANK), "8 0");
            x.setRank(8, -9);
            is("the least rank", x.greatest(0, BY_RANK), -9);
            x.setRank(8, 9);
            is("the greatest rank", x.greatest(0, BY_RANK), 9);
        });
        says("Throws IndexOutOfBoundsException if there is no such text", () -> {
            refused(INDEX, SAMPLE, x -> x.greatest(4, BY_NUMBER));
            refused(INDEX, SAMPLE, x -> x.greatest(-1, BY_RANK));
        });
        says("Throws IllegalArgumentException if order is out of range", () -> {
            refused(ARGUMENT, SAMPLE, x -> x.greatest(1, 2));
            refused(ARGUMENT, SAMPLE, x -> x.greatest(1, -1));
            refused(ARGUMENT, EMPTY, x -> x.greatest(0, 2));
            refused(ARGUMENT, EMPTY, x -> x.greatest(0, LEAST));
        });
        says("Throws NoSuchElementException if the text has no words", () -> {
            refused(NO_ELEMENT, EMPTY, x -> x.greatest(0, BY_NUMBER));
            refused(NO_ELEMENT, EMPTY, x -> x.greatest(3, BY_RANK));
            refused(NO_ELEMENT, SAMPLE, x -> x.greatest(2, BY_NUMBER));
        });
    }

    private static void least() {
        asks(29);
        says("Returns the least word of a text, or the least rank of its words.", () -> {
            told(ranked(2, 1, 9), 1, x -> x.least(0, BY_NUMBER));
            told(ranked(9, 1, 2), -5, x -> x.least(0, BY_RANK));
        });
        text(FULL, (x, text) -> x.least(text, BY_NUMBER));
        says("order: BY_NUMBER for the word, BY_RANK for the rank", () -> {
            told(ranked(3, 9), 3, x -> x.least(0, BY_NUMBER));
            told(ranked(3, 9), 0, x -> x.least(0, BY_RANK));
            limits(ARGUMENT, FULL, 0, 1, (x, order) -> x.least(0, order));
        });
        says("Returns this.", () -> {
            told(ONE, 9, x -> x.least(3, BY_NUMBER));
            told(ONE, 2, x -> x.least(0, BY_RANK));
            told(ONE, -2, x -> x.least(2, BY_RANK));
            told(Room::counted, 0, x -> x.least(0, BY_NUMBER));
            told(ranked(99, 0), 0, x -> x.least(0, BY_NUMBER));
            told(ranked(0, 99), 0, x -> x.least(0, BY_NUMBER));
            told(ranked(99), 99, x -> x.least(0, BY_NUMBER));
            told(ranked(2, 3), 4, x -> x.least(0, BY_RANK));
            told(ranked(1, 2, 3), -5, x -> x.least(0, BY_RANK));
            told(ranked(3, 2, 1), -5, x -> x.least(0, BY_RANK));
            told(allWords(60, 99), 40, x -> x.least(0, BY_NUMBER));
            WordConcordance x = Room.ofMany(7, 59);
            x.add(0, 6);
            x.setRank(7, 9);
            is("the last place of a full text", x.least(0, BY_NUMBER) + " " + x.least(0, BY_RANK), "6 0");
            x.setRank(6, 9);
            is("the greatest rank", x.least(0, BY_RANK), 9);
            x.setRank(6, -9);
            is("the least rank", x.least(0, BY_RANK), -9);
        });
        says("Throws IndexOutOfBoundsException if there is no such text", () -> {
            refused(INDEX, SAMPLE, x -> x.least(4, BY_NUMBER));
            refused(INDEX, SAMPLE, x -> x.least(-1, BY_RANK));
        });
        says("Throws IllegalArgumentException if order is out of range", () -> {
            refused(ARGUMENT, SAMPLE, x -> x.least(1, 2));
            refused(ARGUMENT, SAMPLE, x -> x.least(1, -1));
            refused(ARGUMENT, EMPTY, x -> x.least(0, 2));
            refused(ARGUMENT, EMPTY, x -> x.least(0, GREATEST));
        });
        says("Throws NoSuchElementException if the text has no words", () -> {
            refused(NO_ELEMENT, EMPTY, x -> x.least(0, BY_NUMBER));
            refused(NO_ELEMENT, EMPTY, x -> x.least(3, BY_RANK));
            refused(NO_ELEMENT, SAMPLE, x -> x.least(2, BY_NUMBER));
        });
    }

    private static String sorted(int order, boolean isDown, Room room) {
        WordConcordance x = room.open();
        x.sort(0, order, isDown);
        return words(x, 0);
    }

    private static void sort() {
        changes(30);
        text(FULL, (x, text) -> x.sort(text, BY_RANK, true));
        says("order: BY_NUMBER or BY_RANK", () -> {
            is("by number", sorted(BY_NUMBER, false, ranked(3, 9, 1)), "[1, 3, 9]");
            is("by rank", sorted(BY_RANK, false, ranked(3, 9, 1)), "[1, 9, 3]");
            limits(ARGUMENT, FULL, 0, 1, (x, order) -> x.sort(0, order, false));
            limits(ARGUMENT, EMPTY, 0, 1, (x, order) -> x.sort(0, order, true));
        });
        says("isDown: true for the greatest one first, false for the least one first", () -> {
            is("by number", sorted(BY_NUMBER, false, ranked(9, 0, 5, 99)), "[0, 5, 9, 99]");
            is("by number down", sorted(BY_NUMBER, true, ranked(9, 0, 5, 99)), "[99, 9, 5, 0]");
            is("by rank", sorted(BY_RANK, false, ranked(9, 2, 1)), "[1, 9, 2]");
            is("by rank down", sorted(BY_RANK, true, ranked(9, 1, 2)), "[2, 9, 1]");
        });
        says("Returns how many places have another word then than before.", () -> {
            told(ONE, 0, x -> x.sort(0, BY_RANK, true));
            done(SAMPLE, 3, 1, x -> x.sort(1, BY_NUMBER, false));
            done(Room::counted, 60, 0, x -> x.sort(0, BY_NUMBER, true));
            is("but one", of(9, 0, 5, 99).sort(0, BY_NUMBER, false), 3);
            is("two alike words change their places", of(5, 4, 5, 4, 6).sort(0, BY_NUMBER, false), 2);
            is("all", of(2, 1).sort(0, BY_NUMBER, false), 2);
            told(EMPTY, 0, x -> x.sort(0, BY_NUMBER, true));
            told(EMPTY, 0, x -> x.sort(0, BY_RANK, false));
            told(ranked(3), 0, x -> x.sort(0, BY_NUMBER, false));
            told(ranked(1, 2, 2, 3), 0, x -> x.sort(0, BY_NUMBER, false));
            is("a full text", allWords(60, 99).open().sort(0, BY_NUMBER, false), 60);
            told(allWords(60, 99), 0, x -> x.sort(0, BY_NUMBER, true));
        });
        says("Throws IndexOutOfBoundsException if there is no such text", () -> {
            refused(INDEX, SAMPLE, x -> x.sort(4, BY_NUMBER, false));
            refused(INDEX, SAMPLE, x -> x.sort(-1, BY_RANK, true));
        });
        says("Throws IllegalArgumentException if order is out of range", () -> {
            refused(ARGUMENT, SAMPLE, x -> x.sort(1, 2, false));
            refused(ARGUMENT, SAMPLE, x -> x.sort(1, -1, true));
            refused(ARGUMENT, SAMPLE, x -> x.sort(2, 2, true));
            refused(ARGUMENT, SAMPLE, x -> x.sort(0, GREATEST, true));
        });
    }

    private static void alike() {
        says("Sorts a text; words that are alike in the order stay among them as they stood.", () -> {
            is("by rank", sorted(BY_RANK, false, ranked(3, 9, 2, 8, 1, 7)), "[1, 9, 8, 7, 3, 2]");
            is("by rank down", sorted(BY_RANK, true, ranked(3, 9, 2, 8, 7, 1)), "[3, 2, 9, 8, 7, 1]");
            is("all alike", sorted(BY_RANK, false, ranked(9, 7, 8, 7)), "[9, 7, 8, 7]");
            is("all alike, down", sorted(BY_RANK, true, ranked(9, 7, 8, 7)), "[9, 7, 8, 7]");
            is("alike words", sorted(BY_NUMBER, false, ranked(5, 4, 5, 4, 6)), "[4, 4, 5, 5, 6]");
            is("no words", sorted(BY_NUMBER, false, EMPTY), "[]");
            is("one word", sorted(BY_RANK, true, ranked(3)), "[3]");
            StringBuilder due = new StringBuilder("[40");
            for (int word = 41; word < 100; word++) {
                due.append(", ").append(word);
            }
            is("a full text", sorted(BY_NUMBER, false, allWords(60, 99)), due.append(']').toString());
            told(allWords(60, 99), 0, x -> x.sort(0, BY_RANK, false));
            told(allWords(60, 99), 0, x -> x.sort(0, BY_RANK, true));
        });
        says("Sorts a text; words that are alike in the order stay among them as they stood.", () -> {
            WordConcordance x = Room.counted();
            for (int word = 0; word < 60; word += 2) {
                x.setRank(word, 1);
            }
            x.sort(0, BY_RANK, false);
            is("a full text of two ranks", x.at(0, 0) + " " + x.at(0, 29) + " " + x.at(0, 30) + " " + x.at(0, 59), "1 59 0 58");
            x.sort(0, BY_RANK, true);
            is("the same one down", x.at(0, 0) + " " + x.at(0, 29) + " " + x.at(0, 30) + " " + x.at(0, 59), "0 58 1 59");
        });
    }

    private static void isSorted() {
        asks(31);
        says("Tells whether a text is sorted.", () -> {
            told(ranked(1, 2, 2, 9), true, x -> x.isSorted(0, BY_NUMBER));
            told(ranked(1, 2, 1, 9), false, x -> x.isSorted(0, BY_NUMBER));
            told(ranked(1, 9, 7, 3, 2), true, x -> x.isSorted(0, BY_RANK));
            told(ranked(9, 1), false, x -> x.isSorted(0, BY_RANK));
        });
        text(FULL, (x, text) -> x.isSorted(text, BY_NUMBER));
        says("order: BY_NUMBER or BY_RANK", () -> {
            told(ranked(1, 9, 7, 3, 2), false, x -> x.isSorted(0, BY_NUMBER));
            told(ranked(1, 3, 9), false, x -> x.isSorted(0, BY_RANK));
            limits(ARGUMENT, FULL, 0, 1, (x, order) -> x.isSorted(0, order));
            limits(ARGUMENT, EMPTY, 0, 1, (x, order) -> x.isSorted(0, order));
        });
        says("Returns whether it is.", () -> {
            told(ONE, true, x -> x.isSorted(2, BY_RANK));
            told(FULL, false, x -> x.isSorted(0, BY_NUMBER));
            told(Room::counted, true, x -> x.isSorted(0, BY_NUMBER));
            told(EMPTY, true, x -> x.isSorted(0, BY_NUMBER));
            told(EMPTY, true, x -> x.isSorted(0, BY_RANK));
            told(ranked(1), true, x -> x.isSorted(0, BY_NUMBER));
            told(ranked(4, 4), true, x -> x.isSorted(0, BY_NUMBER));
            told(ranked(5, 4), false, x -> x.isSorted(0, BY_NUMBER));
            told(ranked(5, 4), true, x -> x.isSorted(0, BY_RANK));
            WordConcordance x = Room.ofMany(7, 59);
            x.add(0, 7);
            is("a full text", x.isSorted(0, BY_NUMBER), true);
            x.set(0, 59, 6);
            is("but for its last word", x.isSorted(0, BY_NUMBER), false);
            x.set(0, 59, 7);
            x.set(0, 0, 8);
            is("but for its first word", x.isSorted(0, BY_NUMBER), false);
        });
        says("Throws IndexOutOfBoundsException if there is no such text", () -> {
            refused(INDEX, SAMPLE, x -> x.isSorted(4, BY_NUMBER));
            refused(INDEX, SAMPLE, x -> x.isSorted(-1, BY_RANK));
        });
        says("Throws IllegalArgumentException if order is out of range", () -> {
            refused(ARGUMENT, SAMPLE, x -> x.isSorted(1, 2));
            refused(ARGUMENT, SAMPLE, x -> x.isSorted(2, -1));
            refused(ARGUMENT, SAMPLE, x -> x.isSorted(0, LEAST));
        });
    }

    private static void search() {
        asks(32);
        says("Searches a sorted text for a word, or for one with the same rank.", () -> {
            told(ranked(1, 3, 5), -2, x -> x.search(0, BY_NUMBER, 3));
            told(ranked(1, 3, 5), 1, x -> x.search(0, BY_NUMBER, 2));
            told(ranked(1, 9, 3), -2, x -> x.search(0, BY_RANK, 2));
            told(ranked(1, 9, 3), -2, x -> x.search(0, BY_RANK, 55));
        });
        text(ONE, (x, text) -> x.search(text, BY_NUMBER, 5));
        says("order: BY_NUMBER or BY_RANK", () -> {
            told(ranked(0, 9), 1, x -> x.search(0, BY_NUMBER, 4));
            told(ranked(0, 9), -2, x -> x.search(0, BY_RANK, 4));
            limits(ARGUMENT, EMPTY, 0, 1, (x, order) -> x.search(0, order, 5));
            limits(ARGUMENT, () -> Room.ofMany(1, 60), 0, 1, (x, order) -> x.search(0, order, 5));
        });
        word(ONE, (x, word) -> x.search(0, BY_RANK, word));
    }

    private static void searchPlaces() {
        says("Returns FOUND if there is one; otherwise the only place at which the word could be inserted so that the text stays sorted.",
            () -> {
            Room room = ranked(3, 3, 5, 9);
            told(room, -2, x -> x.search(0, BY_NUMBER, 3));
            told(room, -2, x -> x.search(0, BY_NUMBER, 5));
            told(room, -2, x -> x.search(0, BY_NUMBER, 9));
            told(room, 0, x -> x.search(0, BY_NUMBER, 0));
            told(room, 0, x -> x.search(0, BY_NUMBER, 2));
            told(room, 2, x -> x.search(0, BY_NUMBER, 4));
            told(room, 3, x -> x.search(0, BY_NUMBER, 6));
            told(room, 3, x -> x.search(0, BY_NUMBER, 8));
            told(room, 4, x -> x.search(0, BY_NUMBER, 10));
            told(room, 4, x -> x.search(0, BY_NUMBER, 99));
            told(room, 0, x -> x.search(1, BY_NUMBER, 7));
            told(room, 0, x -> x.search(1, BY_RANK, 7));
            for (int rank = -9; rank <= 9; rank++) {
                int set = rank;
                Room ranks = () -> {
                    WordConcordance x = ranked(1, 8, 7, 3).open();
                    x.setRank(40, set);
                    return x;
                };
                Object due = rank == -5 || rank == 0 || rank == 4 ? -2 : rank < -5 ? 0 : rank < 0 ? 1 : rank < 4 ? 3 : 4;
                told(ranks, due, x -> x.search(0, BY_RANK, 40));
            }
            told(ONE, 0, x -> x.search(0, BY_NUMBER, 6));
            told(ONE, -2, x -> x.search(0, BY_NUMBER, 7));
            told(ONE, 1, x -> x.search(0, BY_NUMBER, 8));
            told(ONE, 0, x -> x.search(0, BY_RANK, 9));
            told(ONE, 1, x -> x.search(2, BY_RANK, 9));
            told(Room::counted, -2, x -> x.search(0, BY_NUMBER, 59));
            told(Room::counted, 60, x -> x.search(0, BY_NUMBER, 60));
            told(() -> Room.ofMany(5, 60), 0, x -> x.search(0, BY_NUMBER, 4));
            told(() -> Room.ofMany(5, 60), -2, x -> x.search(0, BY_NUMBER, 5));
            told(() -> Room.ofMany(5, 60), 60, x -> x.search(0, BY_NUMBER, 6));
        });
    }

    private static void refusedSearch() {
        says("Throws IndexOutOfBoundsException if there is no such text or word", () -> {
            refused(INDEX, SAMPLE, x -> x.search(4, BY_NUMBER, 1));
            refused(INDEX, SAMPLE, x -> x.search(-1, BY_NUMBER, 1));
            refused(INDEX, SAMPLE, x -> x.search(3, BY_NUMBER, 100));
            refused(INDEX, SAMPLE, x -> x.search(3, BY_NUMBER, -1));
            refused(INDEX, SAMPLE, x -> x.search(2, BY_RANK, 100));
        });
        says("Throws IllegalArgumentException if order is out of range", () -> {
            refused(ARGUMENT, SAMPLE, x -> x.search(3, 2, 1));
            refused(ARGUMENT, SAMPLE, x -> x.search(3, -1, 1));
            refused(ARGUMENT, EMPTY, x -> x.search(0, 2, 0));
            refused(ARGUMENT, SAMPLE, x -> x.search(0, GREATEST, 1));
        });
        says("Throws IllegalStateException if the text is not sorted in this order", () -> {
            refused(STATE, SAMPLE, x -> x.search(1, BY_NUMBER, 5));
            refused(STATE, SAMPLE, x -> x.search(1, BY_NUMBER, 99));
            refused(STATE, SAMPLE, x -> x.search(3, BY_RANK, 1));
            refused(STATE, ranked(1, 9, 3), x -> x.search(0, BY_NUMBER, 1));
            taken(ranked(1, 9, 3), x -> x.search(0, BY_RANK, 1));
            refused(STATE, ranked(1, 3, 9), x -> x.search(0, BY_RANK, 1));
            taken(ranked(1, 3, 9), x -> x.search(0, BY_NUMBER, 1));
            refused(STATE, ranked(5, 4), x -> x.search(0, BY_NUMBER, 5));
            taken(ranked(4, 4), x -> x.search(0, BY_NUMBER, 5));
            taken(ranked(4), x -> x.search(0, BY_NUMBER, 5));
        });
    }
}
