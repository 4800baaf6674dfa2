/** Promises 38 to 42: where words stand, what texts have in common, refusals and checks. */
public final class PlaceTest {
    public static void main(String[] args) {
        stands();
        near();
        common();
        commonPlaces();
        refuses();
        errors();
        Check.end();
    }

    // Promise 38
    private static void stands() {
        WordConcordance x = Check.of(4, 1, 4);
        Check.put(x, 2, 1, 4);
        x.addMany(3, 99, 60);
        Check.is("stands", x.stands(4, 0) + " " + x.stands(4, 1) + " " + x.stands(4, 2), "0 2 201");
        Check.is("stands first in a later text", x.stands(99, 0), 300);
        Check.is("stands last of all", x.stands(99, 59), 359);
        Check.is("stands across texts", x.stands(1, 0) + " " + x.stands(1, 1), "1 200");
        Check.is("stands no more", Check.answer(x, z -> z.stands(4, 3)), Check.NO_ELEMENT.getName());
        Check.refused("stands word 100", Check.INDEX, z -> z.stands(100, -1));
        Check.refused("stands word -1", Check.INDEX, z -> z.stands(-1, 0));
        Check.refused("stands the -1st", Check.NO_ELEMENT, z -> z.stands(7, -1));
        Check.refused("stands too far", Check.NO_ELEMENT, z -> z.stands(3, 100));
        Check.refused("stands the greatest", Check.NO_ELEMENT, z -> z.stands(5, Integer.MAX_VALUE));
        Check.refused("stands the least", Check.NO_ELEMENT, z -> z.stands(5, Integer.MIN_VALUE));
        Check.is("stands in no text", Check.answer(new WordConcordance(), z -> z.stands(0, 0)), Check.NO_ELEMENT.getName());
    }

    // Promise 39
    private static void near() {
        WordConcordance x = Check.of(8, 1, 2, 8, 3, 8);
        Check.is("near itself", x.near(0, 3, 8), 3);
        Check.is("near, the lesser of two", x.near(0, 4, 8), 3);
        Check.is("near behind", x.near(0, 2, 8), 3);
        Check.is("near before", x.near(0, 1, 8), 0);
        Check.is("near at the front", x.near(0, 0, 3), 4);
        Check.is("near at the end", x.near(0, 5, 1), 1);
        Check.is("near none", x.near(0, 5, 9), -1);
        Check.refused("near in text 4", Check.INDEX, z -> z.near(4, 0, 0));
        Check.refused("near in text -1", Check.INDEX, z -> z.near(-1, 0, 0));
        Check.refused("near place 4 of 4", Check.INDEX, z -> z.near(1, 4, 5));
        Check.refused("near place -1", Check.INDEX, z -> z.near(1, -1, 5));
        Check.refused("near in no words", Check.INDEX, z -> z.near(2, 0, 5));
        Check.refused("near word 100", Check.INDEX, z -> z.near(1, 0, 100));
        Check.refused("near word -1", Check.INDEX, z -> z.near(1, 0, -1));
    }

    private static String common(WordConcordance x, int one, int other) {
        return x.common(one, other, 0) + " " + x.common(one, other, 1) + " " + x.common(one, other, 2);
    }

    private static WordConcordance two(int[] one, int... other) {
        WordConcordance x = Check.of(one);
        Check.put(x, 1, other);
        return x;
    }

    // Promise 40
    private static void common() {
        Check.is("common", common(two(new int[] {1, 2, 3, 4}, 9, 2, 3, 9), 0, 1), "2 1 1");
        Check.is("common of no words", common(two(new int[] {}, 1, 2), 0, 1), "0 0 0");
        Check.is("common with no words", common(two(new int[] {1, 2}), 0, 1), "0 0 0");
        Check.is("common of none", common(two(new int[] {1, 2}, 3, 4), 0, 1), "0 0 0");
        Check.is("common with itself", common(two(new int[] {1, 1, 2}), 0, 0), "3 0 0");
        Check.is("common of no words with itself", common(new WordConcordance(), 2, 2), "0 0 0");
        WordConcordance x = new WordConcordance();
        x.scatter(0, 60, 100, 9);
        x.add(1, 0);
        x.scatter(1, 59, 100, 9);
        Check.is("common of full texts", common(x, 0, 1), "59 0 1");
        Check.refused("common of text 4", Check.INDEX, z -> z.common(4, 0, 3));
        Check.refused("common of text -1", Check.INDEX, z -> z.common(-1, 0, 0));
        Check.refused("common with text 4", Check.INDEX, z -> z.common(0, 4, 3));
        Check.refused("common with text -1", Check.INDEX, z -> z.common(0, -1, 0));
        Check.refused("common what 3", Check.ARGUMENT, z -> z.common(0, 1, 3));
        Check.refused("common what -1", Check.ARGUMENT, z -> z.common(0, 1, -1));
    }

    private static void commonPlaces() {
        Check.is("common, what begins first", common(two(new int[] {7, 1, 2, 0, 3, 4}, 3, 4, 9, 1, 2), 0, 1), "2 1 3");
        Check.is("common, where it stands first", common(two(new int[] {0, 1, 2}, 1, 9, 1, 2, 1, 2), 0, 1), "2 1 2");
        Check.is("common at both ends", common(two(new int[] {0, 5, 6}, 8, 9, 5, 6), 0, 1), "2 1 2");
        Check.is("common of one word", common(two(new int[] {4, 4, 4}, 1, 4), 0, 1), "1 0 1");
        Check.is("common, a row of one word", common(two(new int[] {4, 4, 4}, 4, 4), 0, 1), "2 0 0");
        WordConcordance x = two(new int[] {1, 2, 3}, 1, 2, 3);
        Check.is("common before", common(x, 0, 1), "3 0 0");
        x.cut(1, 2, 3);
        Check.is("common without what was cut off", common(x, 0, 1), "2 0 0");
        Check.is("common with no words after that", common(x, 0, 2), "0 0 0");
        WordConcordance y = two(new int[] {3}, 1, 2, 3);
        Check.is("common with three words", common(y, 0, 1), "1 0 2");
        y.remove(1, 1);
        Check.is("common with two of them", common(y, 0, 1), "1 0 1");
    }

    // Promise 41
    private static void refuses() {
        WordConcordance x = new WordConcordance();
        for (int what = 0; what <= 4; what++) {
            Check.is("refuses " + what, x.refuses(what), true);
        }
        WordConcordance y = Check.sample();
        String before = Check.state(y);
        Check.is("refuses beside full texts", y.refuses(0) && y.refuses(1) && y.refuses(2) && y.refuses(3) && y.refuses(4), true);
        Check.is("after it", Check.state(y), before);
        Check.refused("refuses 5", Check.ARGUMENT, z -> z.refuses(5));
        Check.refused("refuses -1", Check.ARGUMENT, z -> z.refuses(-1));
    }

    // Promise 42
    private static void errors() {
        WordConcordance x = Check.sample();
        String before = Check.state(x);
        for (int text = 0; text < 4; text++) {
            Check.is("errors of text " + text, x.errors(text), 0);
        }
        Check.is("after errors", Check.state(x), before);
        x.hush(0);
        for (int text = 0; text < 4; text++) {
            Check.is("errors of text " + text + " and no wanted words", x.errors(text), 0);
        }
        x.quote(0, 0, 48, 60);
        Check.is("errors of a long phrase", x.errors(0) + x.errors(1) + x.errors(2), 0);
        WordConcordance y = Check.of(1, 2, 1, 2, 1);
        Check.say(y, 0, 1, 2, 1);
        Check.is("errors of what overlaps", y.errors(0), 0);
        Check.refused("errors of text 4", Check.INDEX, z -> z.errors(4));
        Check.refused("errors of text -1", Check.INDEX, z -> z.errors(-1));
    }
}
