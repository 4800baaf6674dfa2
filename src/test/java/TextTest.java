/** Promises 2 to 12: putting words into texts and ranks to words, and asking for them. */
public final class TextTest {
    public static void main(String[] args) {
        add();
        addMany();
        scatter();
        insert();
        set();
        remove();
        cut();
        size();
        at();
        digest();
        setRank();
        Check.end();
    }

    // Promise 2
    private static void add() {
        WordConcordance x = new WordConcordance();
        Check.is("add first", x.add(0, 0), 1);
        Check.is("add second", x.add(0, 99), 2);
        Check.is("add elsewhere", x.add(3, 5), 1);
        Check.is("added", Check.words(x, 0), "[0, 99]");
        Check.is("added elsewhere", Check.words(x, 3), "[5]");
        WordConcordance y = new WordConcordance();
        y.addMany(2, 1, 59);
        Check.is("add the 60th", y.add(2, 8), 60);
        Check.is("the 60th", y.at(2, 59), 8);
        Check.refused("add to text 4", Check.INDEX, z -> z.add(4, 0));
        Check.refused("add to text -1", Check.INDEX, z -> z.add(-1, 0));
        Check.refused("add word 100", Check.INDEX, z -> z.add(1, 100));
        Check.refused("add word -1", Check.INDEX, z -> z.add(1, -1));
        Check.refused("add a 61st", Check.STATE, z -> z.add(0, 1));
        Check.refused("add word 100 as a 61st", Check.INDEX, z -> z.add(0, 100));
    }

    // Promise 3
    private static void addMany() {
        WordConcordance x = Check.of(4);
        Check.is("addMany", x.addMany(0, 6, 3), 4);
        Check.is("added many", Check.words(x, 0), "[4, 6, 6, 6]");
        Check.is("addMany none", x.addMany(0, 7, 0), 4);
        Check.is("addMany to the limit", x.addMany(0, 8, 56), 60);
        Check.is("addMany none to a full text", x.addMany(0, 8, 0), 60);
        Check.is("last of many", x.at(0, 59), 8);
        Check.refused("addMany to text 4", Check.INDEX, z -> z.addMany(4, 0, 1));
        Check.refused("addMany to text -1, -1 times", Check.INDEX, z -> z.addMany(-1, 0, -1));
        Check.refused("addMany word 100, -1 times", Check.INDEX, z -> z.addMany(1, 100, -1));
        Check.refused("addMany word -1, too often", Check.INDEX, z -> z.addMany(1, -1, 61));
        Check.refused("addMany -1 times", Check.ARGUMENT, z -> z.addMany(1, 0, -1));
        Check.refused("addMany -1 times to a full text", Check.ARGUMENT, z -> z.addMany(0, 0, -1));
        Check.refused("addMany the least number of times", Check.ARGUMENT, z -> z.addMany(0, 0, Integer.MIN_VALUE));
        Check.refused("addMany to 61", Check.STATE, z -> z.addMany(1, 0, 57));
        Check.refused("addMany the greatest number of times", Check.STATE, z -> z.addMany(1, 0, Integer.MAX_VALUE));
    }

    // Promise 4
    private static void scatter() {
        WordConcordance x = Check.of(4);
        Check.is("scatter", x.scatter(0, 5, 100, 1), 6);
        Check.is("scattered", Check.words(x, 0), "[4, 38, 58, 13, 15, 51]");
        Check.is("scatter with the greatest seed", x.scatter(1, 6, 7, Integer.MAX_VALUE), 6);
        Check.is("scattered with the greatest seed", Check.words(x, 1), scattered(6, 7, Integer.MAX_VALUE));
        Check.is("scatter with the seed 0", x.scatter(2, 60, 99, 0), 60);
        Check.is("scattered with the seed 0", Check.words(x, 2), scattered(60, 99, 0));
        Check.is("scatter none", x.scatter(0, 0, 1, 0), 6);
        Check.is("scatter one word", x.scatter(3, 3, 1, 77), 3);
        Check.is("scattered one word", Check.words(x, 3), "[0, 0, 0]");
        Check.is("scatter to the limit", x.scatter(0, 54, 100, 5), 60);
        Check.is("scatter none to a full text", x.scatter(0, 0, 100, 5), 60);
        Check.refused("scatter to text 4, wrong", Check.INDEX, z -> z.scatter(4, -1, 0, -1));
        Check.refused("scatter to text -1", Check.INDEX, z -> z.scatter(-1, 1, 1, 1));
        Check.refused("scatter -1", Check.ARGUMENT, z -> z.scatter(1, -1, 5, 1));
        Check.refused("scatter 61", Check.ARGUMENT, z -> z.scatter(1, 61, 5, 1));
        Check.refused("scatter in 0", Check.ARGUMENT, z -> z.scatter(1, 1, 0, 1));
        Check.refused("scatter in 101", Check.ARGUMENT, z -> z.scatter(1, 1, 101, 1));
        Check.refused("scatter with the seed -1", Check.ARGUMENT, z -> z.scatter(1, 1, 5, -1));
        Check.refused("scatter 61 to a full text", Check.ARGUMENT, z -> z.scatter(0, 61, 5, 1));
        Check.refused("scatter 1 to a full text, seed -1", Check.ARGUMENT, z -> z.scatter(0, 1, 5, -1));
        Check.refused("scatter to 61", Check.STATE, z -> z.scatter(1, 57, 5, 1));
        Check.refused("scatter 1 to a full text", Check.STATE, z -> z.scatter(0, 1, 5, 1));
    }

    private static String scattered(int many, int range, int seed) {
        java.math.BigInteger x = java.math.BigInteger.valueOf(seed);
        java.util.List<Integer> all = new java.util.ArrayList<>();
        for (int i = 0; i < many; i++) {
            x = x.multiply(java.math.BigInteger.valueOf(1103515245)).add(java.math.BigInteger.valueOf(12345))
                .mod(java.math.BigInteger.TWO.pow(31));
            all.add(x.divide(java.math.BigInteger.valueOf(65536)).mod(java.math.BigInteger.valueOf(range)).intValue());
        }
        return all.toString();
    }

    // Promise 5
    private static void insert() {
        WordConcordance x = new WordConcordance();
        Check.is("insert into an empty text", x.insert(1, 0, 5), 1);
        Check.is("insert at the front", x.insert(1, 0, 6), 2);
        Check.is("insert behind all", x.insert(1, 2, 7), 3);
        Check.is("insert between", x.insert(1, 1, 8), 4);
        Check.is("inserted", Check.words(x, 1), "[6, 8, 5, 7]");
        x.addMany(1, 1, 55);
        Check.is("insert the 60th", x.insert(1, 0, 9), 60);
        Check.is("insert: the last one went up", x.at(1, 59), 1);
        Check.is("insert: the first one went up", x.at(1, 1), 6);
        Check.refused("insert into text 4", Check.INDEX, z -> z.insert(4, 0, 0));
        Check.refused("insert into text -1", Check.INDEX, z -> z.insert(-1, 0, 0));
        Check.refused("insert word 100", Check.INDEX, z -> z.insert(1, 0, 100));
        Check.refused("insert word -1", Check.INDEX, z -> z.insert(1, 0, -1));
        Check.refused("insert at -1", Check.INDEX, z -> z.insert(1, -1, 0));
        Check.refused("insert at 5 of 4", Check.INDEX, z -> z.insert(1, 5, 0));
        Check.refused("insert into a full text", Check.STATE, z -> z.insert(0, 0, 0));
        Check.refused("insert behind a full text", Check.STATE, z -> z.insert(0, 60, 0));
        Check.refused("insert far behind a full text", Check.INDEX, z -> z.insert(0, 61, 0));
        Check.refused("insert word 100 into a full text", Check.INDEX, z -> z.insert(0, 0, 100));
    }

    // Promise 6
    private static void set() {
        WordConcordance x = Check.of(1, 2, 3);
        Check.is("set", x.set(0, 1, 99), 2);
        Check.is("set the last", x.set(0, 2, 0), 3);
        Check.is("set the same", x.set(0, 0, 1), 1);
        Check.is("all set", Check.words(x, 0), "[1, 99, 0]");
        Check.refused("set in text 4", Check.INDEX, z -> z.set(4, 0, 0));
        Check.refused("set in text -1", Check.INDEX, z -> z.set(-1, 0, 0));
        Check.refused("set at 4 of 4", Check.INDEX, z -> z.set(1, 4, 0));
        Check.refused("set at -1", Check.INDEX, z -> z.set(1, -1, 0));
        Check.refused("set word 100", Check.INDEX, z -> z.set(1, 0, 100));
        Check.refused("set word -1", Check.INDEX, z -> z.set(1, 0, -1));
        Check.refused("set in an empty text", Check.INDEX, z -> z.set(2, 0, 0));
        Check.refused("set behind a full text", Check.INDEX, z -> z.set(0, 60, 0));
    }

    // Promise 7
    private static void remove() {
        WordConcordance x = Check.of(1, 2, 3, 4);
        Check.is("remove between", x.remove(0, 1), 2);
        Check.is("removed", Check.words(x, 0), "[1, 3, 4]");
        Check.is("remove the last", x.remove(0, 2), 4);
        Check.is("remove the first", x.remove(0, 0), 1);
        Check.is("all but one removed", Check.words(x, 0), "[3]");
        Check.is("remove the only one", x.remove(0, 0), 3);
        Check.is("none left", x.size(0), 0);
        WordConcordance y = Check.sample();
        int last = y.at(0, 59);
        y.remove(0, 0);
        Check.is("remove from a full text", y.at(0, 58), last);
        Check.refused("remove from text 4", Check.INDEX, z -> z.remove(4, 0));
        Check.refused("remove from text -1", Check.INDEX, z -> z.remove(-1, 0));
        Check.refused("remove at 4 of 4", Check.INDEX, z -> z.remove(1, 4));
        Check.refused("remove at -1", Check.INDEX, z -> z.remove(1, -1));
        Check.refused("remove from an empty text", Check.INDEX, z -> z.remove(2, 0));
    }

    // Promise 8
    private static void cut() {
        WordConcordance x = Check.of(1, 2, 3, 4, 5, 6);
        Check.is("cut", x.cut(0, 1, 3), 4);
        Check.is("after cut", Check.words(x, 0), "[1, 4, 5, 6]");
        Check.is("cut nothing", x.cut(0, 2, 2), 4);
        Check.is("cut nothing at the end", x.cut(0, 4, 4), 4);
        Check.is("cut at the end", x.cut(0, 3, 4), 3);
        Check.is("after three cuts", Check.words(x, 0), "[1, 4, 5]");
        Check.is("cut all", x.cut(0, 0, 3), 0);
        Check.is("cut nothing of nothing", x.cut(0, 0, 0), 0);
        Check.refused("cut text 4", Check.INDEX, z -> z.cut(4, 0, 0));
        Check.refused("cut text -1", Check.INDEX, z -> z.cut(-1, 0, 0));
        Check.refused("cut from -1", Check.INDEX, z -> z.cut(1, -1, 2));
        Check.refused("cut backwards", Check.INDEX, z -> z.cut(1, 2, 1));
        Check.refused("cut to 5 of 4", Check.INDEX, z -> z.cut(1, 0, 5));
        Check.refused("cut from 5 to 5 of 4", Check.INDEX, z -> z.cut(1, 5, 5));
        Check.refused("cut to the greatest number", Check.INDEX, z -> z.cut(1, 0, Integer.MAX_VALUE));
        Check.refused("cut from the least number", Check.INDEX, z -> z.cut(1, Integer.MIN_VALUE, 1));
    }

    // Promise 9
    private static void size() {
        WordConcordance x = Check.sample();
        Check.is("sizes", x.size(0) + " " + x.size(1) + " " + x.size(2) + " " + x.size(3), "60 4 0 4");
        Check.refused("size of text 4", Check.INDEX, z -> z.size(4));
        Check.refused("size of text -1", Check.INDEX, z -> z.size(-1));
    }

    // Promise 10
    private static void at() {
        WordConcordance x = Check.sample();
        Check.is("at", x.at(1, 0) + " " + x.at(1, 1) + " " + x.at(1, 3), "5 7 3");
        Check.refused("at text 4", Check.INDEX, z -> z.at(4, 0));
        Check.refused("at text -1", Check.INDEX, z -> z.at(-1, 0));
        Check.refused("at 4 of 4", Check.INDEX, z -> z.at(1, 4));
        Check.refused("at -1", Check.INDEX, z -> z.at(1, -1));
        Check.refused("at 60 of 60", Check.INDEX, z -> z.at(0, 60));
        Check.refused("at 0 of an empty text", Check.INDEX, z -> z.at(2, 0));
    }

    // Promise 11
    private static void digest() {
        WordConcordance x = Check.of(3);
        Check.is("digest of no words", x.digest(1), 7);
        Check.is("digest of a word", x.digest(0), 220);
        x.add(0, 99);
        Check.is("digest of two words", x.digest(0), 220 * 31 + 99);
        x.addMany(0, 98, 10);
        long due = 220 * 31 + 99;
        for (int i = 0; i < 10; i++) {
            due = (due * 31 + 98) % (1L << 32);
        }
        Check.is("digest of twelve words", x.digest(0), (int) due);
        Check.refused("digest of text 4", Check.INDEX, z -> z.digest(4));
        Check.refused("digest of text -1", Check.INDEX, z -> z.digest(-1));
    }

    // Promise 12
    private static void setRank() {
        WordConcordance x = new WordConcordance();
        Check.is("setRank", x.setRank(0, -9), 0);
        Check.is("setRank again", x.setRank(0, 9), -9);
        Check.is("setRank once more", x.setRank(0, 0), 9);
        Check.is("setRank of the last word", x.setRank(99, 4), 0);
        Check.is("setRank of it again", x.setRank(99, 4), 4);
        Check.is("setRank of another word", x.setRank(98, 4), 0);
        Check.refused("setRank of word 100", Check.INDEX, z -> z.setRank(100, 0));
        Check.refused("setRank of word -1", Check.INDEX, z -> z.setRank(-1, 0));
        Check.refused("setRank of word 100 to 10", Check.INDEX, z -> z.setRank(100, 10));
        Check.refused("setRank to 10", Check.ARGUMENT, z -> z.setRank(5, 10));
        Check.refused("setRank to -10", Check.ARGUMENT, z -> z.setRank(5, -10));
    }
}
