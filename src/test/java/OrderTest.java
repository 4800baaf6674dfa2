/** Promises 28 to 37: texts sorted and searched, and their parts turned, moved, filled and copied. */
public final class OrderTest {
    private static final int BY_NUMBER = WordConcordance.BY_NUMBER;
    private static final int BY_RANK = WordConcordance.BY_RANK;

    public static void main(String[] args) {
        greatest();
        least();
        sort();
        isSorted();
        searchByNumber();
        searchByRank();
        refusedSearch();
        turn();
        move();
        swap();
        fill();
        copy();
        Check.end();
    }

    /** Rank -5 for 1, rank 4 for 2 and for 3, rank 0 for all others. */
    private static WordConcordance ranked(int... words) {
        WordConcordance x = Check.of(words);
        x.setRank(1, -5);
        x.setRank(2, 4);
        x.setRank(3, 4);
        return x;
    }

    // Promise 28
    private static void greatest() {
        Check.is("greatest word", ranked(2, 9, 1).greatest(0, BY_NUMBER), 9);
        Check.is("greatest rank", ranked(1, 9, 2).greatest(0, BY_RANK), 4);
        Check.is("greatest rank below 0", ranked(1, 1).greatest(0, BY_RANK), -5);
        Check.is("greatest word at the front", ranked(99, 0).greatest(0, BY_NUMBER), 99);
        Check.is("greatest word at the end", ranked(0, 99).greatest(0, BY_NUMBER), 99);
        Check.refused("greatest in text 4", Check.INDEX, z -> z.greatest(4, 2));
        Check.refused("greatest in text -1", Check.INDEX, z -> z.greatest(-1, 0));
        Check.refused("greatest in order 2", Check.ARGUMENT, z -> z.greatest(1, 2));
        Check.refused("greatest in order -1", Check.ARGUMENT, z -> z.greatest(1, -1));
        Check.refused("greatest in order 2 in no words", Check.ARGUMENT, z -> z.greatest(2, 2));
        Check.refused("greatest in no words", Check.NO_ELEMENT, z -> z.greatest(2, 0));
        Check.refused("greatest rank in no words", Check.NO_ELEMENT, z -> z.greatest(2, 1));
    }

    // Promise 29
    private static void least() {
        Check.is("least word", ranked(2, 1, 9).least(0, BY_NUMBER), 1);
        Check.is("least rank", ranked(9, 1, 2).least(0, BY_RANK), -5);
        Check.is("least rank above 0", ranked(2, 3).least(0, BY_RANK), 4);
        Check.is("least word at the front", ranked(0, 99).least(0, BY_NUMBER), 0);
        Check.is("least word at the end", ranked(99, 0).least(0, BY_NUMBER), 0);
        Check.refused("least in text 4", Check.INDEX, z -> z.least(4, 2));
        Check.refused("least in text -1", Check.INDEX, z -> z.least(-1, 0));
        Check.refused("least in order 2", Check.ARGUMENT, z -> z.least(1, 2));
        Check.refused("least in order -1", Check.ARGUMENT, z -> z.least(1, -1));
        Check.refused("least in order 2 in no words", Check.ARGUMENT, z -> z.least(2, 2));
        Check.refused("least in no words", Check.NO_ELEMENT, z -> z.least(2, 0));
        Check.refused("least rank in no words", Check.NO_ELEMENT, z -> z.least(2, 1));
    }

    private static String sorted(int changed, int order, boolean isDown, int... words) {
        WordConcordance x = ranked(words);
        Check.is("places with another word", x.sort(0, order, isDown), changed);
        return Check.words(x, 0);
    }

    // Promise 30
    private static void sort() {
        Check.is("sorted", sorted(3, BY_NUMBER, false, 9, 0, 5, 99), "[0, 5, 9, 99]");
        Check.is("sorted down", sorted(3, BY_NUMBER, true, 9, 0, 5, 99), "[99, 9, 5, 0]");
        Check.is("sorted by rank", sorted(5, BY_RANK, false, 3, 9, 2, 8, 1, 7), "[1, 9, 8, 7, 3, 2]");
        Check.is("sorted by rank down", sorted(2, BY_RANK, true, 3, 9, 2, 8, 7, 1), "[3, 2, 9, 8, 7, 1]");
        Check.is("sorted alike words", sorted(0, BY_RANK, true, 9, 7, 8, 7), "[9, 7, 8, 7]");
        Check.is("sorted alike words up", sorted(0, BY_RANK, false, 9, 7, 8, 7), "[9, 7, 8, 7]");
        Check.is("sorted with doubles", sorted(2, BY_NUMBER, false, 5, 4, 5, 4, 6), "[4, 4, 5, 5, 6]");
        Check.is("sorted no words", sorted(0, BY_NUMBER, true), "[]");
        Check.is("sorted one word", sorted(0, BY_RANK, false, 3), "[3]");
        Check.refused("sort text 4", Check.INDEX, z -> z.sort(4, 2, false));
        Check.refused("sort text -1", Check.INDEX, z -> z.sort(-1, 0, false));
        Check.refused("sort in order 2", Check.ARGUMENT, z -> z.sort(1, 2, false));
        Check.refused("sort in order -1", Check.ARGUMENT, z -> z.sort(1, -1, true));
        Check.refused("sort no words in order 2", Check.ARGUMENT, z -> z.sort(2, 2, true));
    }

    // Promise 31
    private static void isSorted() {
        Check.is("isSorted", ranked(1, 2, 2, 9).isSorted(0, BY_NUMBER), true);
        Check.is("isSorted not", ranked(1, 2, 1, 9).isSorted(0, BY_NUMBER), false);
        Check.is("isSorted not at the end", ranked(1, 2, 9, 8).isSorted(0, BY_NUMBER), false);
        Check.is("isSorted by rank", ranked(1, 9, 7, 3, 2).isSorted(0, BY_RANK), true);
        Check.is("isSorted by rank, not by number", ranked(1, 9, 7, 3, 2).isSorted(0, BY_NUMBER), false);
        Check.is("isSorted by number, not by rank", ranked(1, 3, 9).isSorted(0, BY_RANK), false);
        Check.is("isSorted no words", ranked().isSorted(0, BY_RANK), true);
        Check.is("isSorted one word", ranked(1).isSorted(0, BY_NUMBER), true);
        Check.refused("isSorted text 4", Check.INDEX, z -> z.isSorted(4, 2));
        Check.refused("isSorted text -1", Check.INDEX, z -> z.isSorted(-1, 0));
        Check.refused("isSorted in order 2", Check.ARGUMENT, z -> z.isSorted(1, 2));
        Check.refused("isSorted no words in order -1", Check.ARGUMENT, z -> z.isSorted(2, -1));
    }

    // Promise 32
    private static void searchByNumber() {
        WordConcordance x = Check.of(3, 3, 5, 9);
        Check.is("search the first", x.search(0, BY_NUMBER, 3), -2);
        Check.is("search between", x.search(0, BY_NUMBER, 5), -2);
        Check.is("search the last", x.search(0, BY_NUMBER, 9), -2);
        Check.is("search place 0", x.search(0, BY_NUMBER, 0), 0);
        Check.is("search place 2", x.search(0, BY_NUMBER, 4), 2);
        Check.is("search place 3", x.search(0, BY_NUMBER, 6), 3);
        Check.is("search place 4", x.search(0, BY_NUMBER, 99), 4);
        Check.is("search in no words", x.search(1, BY_NUMBER, 7), 0);
    }

    private static void searchByRank() {
        WordConcordance x = ranked(1, 8, 7, 3);
        Check.is("search a rank", x.search(0, BY_RANK, 2), -2);
        Check.is("search the rank 0", x.search(0, BY_RANK, 55), -2);
        x.setRank(40, 1);
        Check.is("search a rank between", x.search(0, BY_RANK, 40), 3);
        x.setRank(40, -9);
        Check.is("search a rank before all", x.search(0, BY_RANK, 40), 0);
        x.setRank(40, 9);
        Check.is("search a rank behind all", x.search(0, BY_RANK, 40), 4);
        Check.is("search a rank in no words", x.search(1, BY_RANK, 40), 0);
    }

    private static void refusedSearch() {
        Check.refused("search text 4", Check.INDEX, z -> z.search(4, 2, 100));
        Check.refused("search text -1", Check.INDEX, z -> z.search(-1, 0, 0));
        Check.refused("search word 100", Check.INDEX, z -> z.search(3, 0, 100));
        Check.refused("search word -1", Check.INDEX, z -> z.search(3, 0, -1));
        Check.refused("search word 100 in order 2", Check.INDEX, z -> z.search(1, 2, 100));
        Check.refused("search word 100, not sorted", Check.INDEX, z -> z.search(1, 0, 100));
        Check.refused("search in order 2", Check.ARGUMENT, z -> z.search(3, 2, 1));
        Check.refused("search in order -1", Check.ARGUMENT, z -> z.search(3, -1, 1));
        Check.refused("search in order 2, not sorted", Check.ARGUMENT, z -> z.search(1, 2, 1));
        Check.refused("search by number, not sorted", Check.STATE, z -> z.search(1, BY_NUMBER, 5));
        Check.refused("search by rank, not sorted", Check.STATE, z -> z.search(3, BY_RANK, 1));
    }

    // Promise 33
    private static void turn() {
        WordConcordance x = Check.of(1, 2, 3, 4, 5);
        Check.is("turn", x.turn(0, 1, 4), 3);
        Check.is("turned", Check.words(x, 0), "[1, 4, 3, 2, 5]");
        Check.is("turn an even part", x.turn(0, 1, 5), 4);
        Check.is("turned an even part", Check.words(x, 0), "[1, 5, 2, 3, 4]");
        Check.is("turn all", x.turn(0, 0, 5), 5);
        Check.is("turned all", Check.words(x, 0), "[4, 3, 2, 5, 1]");
        Check.is("turn one", x.turn(0, 2, 3), 1);
        Check.is("turn none", x.turn(0, 5, 5), 0);
        Check.is("turned at last", Check.words(x, 0), "[4, 3, 2, 5, 1]");
        Check.refused("turn text 4", Check.INDEX, z -> z.turn(4, 0, 0));
        Check.refused("turn text -1", Check.INDEX, z -> z.turn(-1, 0, 0));
        Check.refused("turn from -1", Check.INDEX, z -> z.turn(1, -1, 2));
        Check.refused("turn backwards", Check.INDEX, z -> z.turn(1, 3, 2));
        Check.refused("turn to 5 of 4", Check.INDEX, z -> z.turn(1, 0, 5));
    }

    // Promise 34
    private static void move() {
        WordConcordance x = Check.of(1, 2, 3, 4, 5);
        Check.is("move up", x.move(0, 0, 5, 2), 2);
        Check.is("moved up", Check.words(x, 0), "[4, 5, 1, 2, 3]");
        Check.is("move down", x.move(0, 0, 5, -1), 4);
        Check.is("moved down", Check.words(x, 0), "[5, 1, 2, 3, 4]");
        Check.is("move a part", x.move(0, 1, 4, 4), 1);
        Check.is("moved a part", Check.words(x, 0), "[5, 3, 1, 2, 4]");
        Check.is("move by 0", x.move(0, 0, 5, 0), 0);
        Check.is("move once round", x.move(0, 0, 5, -5), 0);
        Check.is("not moved", Check.words(x, 0), "[5, 3, 1, 2, 4]");
        Check.is("move by the least number", x.move(0, 0, 5, Integer.MIN_VALUE), 2);
        Check.is("moved by the least number", Check.words(x, 0), "[2, 4, 5, 3, 1]");
        Check.is("move by the greatest number", x.move(0, 0, 3, Integer.MAX_VALUE), 1);
        Check.is("moved by the greatest number", Check.words(x, 0), "[5, 2, 4, 3, 1]");
        Check.is("move no part", x.move(0, 5, 5, 3), 0);
        Check.is("move no words", x.move(1, 0, 0, -3), 0);
        Check.is("move one word", x.move(0, 2, 3, 7), 0);
        Check.refused("move text 4", Check.INDEX, z -> z.move(4, 0, 0, 1));
        Check.refused("move text -1", Check.INDEX, z -> z.move(-1, 0, 0, 1));
        Check.refused("move from -1", Check.INDEX, z -> z.move(1, -1, 2, 1));
        Check.refused("move backwards", Check.INDEX, z -> z.move(1, 3, 2, 1));
        Check.refused("move to 5 of 4", Check.INDEX, z -> z.move(1, 0, 5, 1));
    }

    // Promise 35
    private static void swap() {
        WordConcordance x = Check.of(1, 2, 3);
        Check.is("swap", x.swap(0, 0, 2), 3);
        Check.is("swapped", Check.words(x, 0), "[3, 2, 1]");
        Check.is("swap with itself", x.swap(0, 1, 1), 2);
        Check.is("swap downwards", x.swap(0, 2, 1), 2);
        Check.is("swapped at last", Check.words(x, 0), "[3, 1, 2]");
        Check.refused("swap in text 4", Check.INDEX, z -> z.swap(4, 0, 0));
        Check.refused("swap in text -1", Check.INDEX, z -> z.swap(-1, 0, 0));
        Check.refused("swap 4 of 4", Check.INDEX, z -> z.swap(1, 4, 0));
        Check.refused("swap -1", Check.INDEX, z -> z.swap(1, -1, 0));
        Check.refused("swap with 4 of 4", Check.INDEX, z -> z.swap(1, 0, 4));
        Check.refused("swap with -1", Check.INDEX, z -> z.swap(1, 0, -1));
        Check.refused("swap in no words", Check.INDEX, z -> z.swap(2, 0, 0));
    }

    // Promise 36
    private static void fill() {
        WordConcordance x = Check.of(1, 2, 3, 2, 5);
        Check.is("fill", x.fill(0, 1, 4, 2), 1);
        Check.is("filled", Check.words(x, 0), "[1, 2, 2, 2, 5]");
        Check.is("fill none", x.fill(0, 5, 5, 9), 0);
        Check.is("fill the end", x.fill(0, 3, 5, 99), 2);
        Check.is("fill all", x.fill(0, 0, 5, 99), 3);
        Check.is("filled all", Check.words(x, 0), "[99, 99, 99, 99, 99]");
        Check.refused("fill text 4", Check.INDEX, z -> z.fill(4, 0, 0, 0));
        Check.refused("fill text -1", Check.INDEX, z -> z.fill(-1, 0, 0, 0));
        Check.refused("fill from -1", Check.INDEX, z -> z.fill(1, -1, 2, 0));
        Check.refused("fill backwards", Check.INDEX, z -> z.fill(1, 3, 2, 0));
        Check.refused("fill to 5 of 4", Check.INDEX, z -> z.fill(1, 0, 5, 0));
        Check.refused("fill with word 100", Check.INDEX, z -> z.fill(1, 0, 4, 100));
        Check.refused("fill no part with word -1", Check.INDEX, z -> z.fill(1, 0, 0, -1));
    }

    // Promise 37
    private static void copy() {
        WordConcordance x = Check.of(1, 2);
        Check.put(x, 1, 7, 8, 9);
        Check.is("copy", x.copy(0, 1), 3);
        Check.is("copied", Check.words(x, 0) + Check.words(x, 1), "[1, 2][1, 2, 9]");
        Check.is("copy no words", x.copy(2, 1), 3);
        Check.is("copy no words to no words", x.copy(2, 3), 0);
        Check.is("copy to itself", x.copy(1, 1), 3);
        x.cut(1, 2, 3);
        x.set(0, 0, 50);
        Check.is("copy as many", x.copy(0, 1), 2);
        Check.is("copied as many", Check.words(x, 1), "[50, 2]");
        Check.refused("copy text 4", Check.INDEX, z -> z.copy(4, 0));
        Check.refused("copy text -1", Check.INDEX, z -> z.copy(-1, 0));
        Check.refused("copy to text 4", Check.INDEX, z -> z.copy(0, 4));
        Check.refused("copy to text -1", Check.INDEX, z -> z.copy(0, -1));
        Check.refused("copy to fewer words", Check.STATE, z -> z.copy(0, 1));
        Check.refused("copy to no words", Check.STATE, z -> z.copy(1, 2));
    }
}
