/** Promises 13 to 21: the two phrases, found, counted and put in place of each other. */
public final class PhraseTest {
    private static final int WANTED = WordConcordance.WANTED;
    private static final int NEW = WordConcordance.NEW;

    public static void main(String[] args) {
        say();
        quote();
        hush();
        wordOf();
        find();
        findLast();
        findIn();
        count();
        replace();
        refusedReplace();
        Check.end();
    }

    // Promise 13
    private static void say() {
        WordConcordance x = new WordConcordance();
        Check.is("say", x.say(WANTED, 0), 1);
        Check.is("say more", x.say(WANTED, 99), 2);
        Check.is("say to the other", x.say(NEW, 5), 1);
        Check.is("said", Check.phrase(x, WANTED) + Check.phrase(x, NEW), "[0, 99][5]");
        for (int i = 0; i < 10; i++) {
            x.say(WANTED, i);
        }
        Check.is("said twelve", Check.phrase(x, WANTED), "[0, 99, 0, 1, 2, 3, 4, 5, 6, 7, 8, 9]");
        Check.is("say a 13th", Check.answer(x, z -> z.say(WANTED, 0)), Check.STATE.getName());
        Check.is("say word 100 as a 13th", Check.answer(x, z -> z.say(WANTED, 100)), Check.INDEX.getName());
        Check.is("still twelve", Check.phrase(x, WANTED), "[0, 99, 0, 1, 2, 3, 4, 5, 6, 7, 8, 9]");
        Check.refused("say to phrase 2", Check.INDEX, z -> z.say(2, 0));
        Check.refused("say to phrase -1", Check.INDEX, z -> z.say(-1, 0));
        Check.refused("say word 100", Check.INDEX, z -> z.say(NEW, 100));
        Check.refused("say word -1", Check.INDEX, z -> z.say(NEW, -1));
    }

    // Promise 14
    private static void quote() {
        WordConcordance x = Check.of(1, 2, 3, 4, 5, 6, 7, 8, 9, 10, 11, 12, 13);
        Check.is("quote", x.quote(WANTED, 0, 1, 4), 3);
        Check.is("quoted", Check.phrase(x, WANTED), "[2, 3, 4]");
        Check.is("quote twelve", x.quote(NEW, 0, 1, 13), 12);
        Check.is("quoted twelve", Check.phrase(x, NEW), "[2, 3, 4, 5, 6, 7, 8, 9, 10, 11, 12, 13]");
        Check.is("quote fewer", x.quote(NEW, 0, 12, 13), 1);
        Check.is("quoted fewer", Check.phrase(x, NEW), "[13]");
        Check.is("quote nothing", x.quote(WANTED, 0, 13, 13), 0);
        Check.is("quoted nothing", Check.phrase(x, WANTED), "[]");
        x.quote(WANTED, 0, 0, 2);
        x.set(0, 0, 50);
        Check.is("a quoted word stays", x.wordOf(WANTED, 0), 1);
        Check.refused("quote into phrase 2", Check.INDEX, z -> z.quote(2, 1, 0, 1));
        Check.refused("quote into phrase -1", Check.INDEX, z -> z.quote(-1, 1, 0, 1));
        Check.refused("quote text 4", Check.INDEX, z -> z.quote(0, 4, 0, 0));
        Check.refused("quote text -1", Check.INDEX, z -> z.quote(0, -1, 0, 0));
        Check.refused("quote to 5 of 4", Check.INDEX, z -> z.quote(0, 1, 0, 5));
        Check.refused("quote from -1", Check.INDEX, z -> z.quote(0, 1, -1, 2));
        Check.refused("quote backwards", Check.INDEX, z -> z.quote(0, 1, 2, 1));
        Check.refused("quote 13 of 4", Check.INDEX, z -> z.quote(0, 1, 0, 13));
        Check.refused("quote 13 into phrase 2", Check.INDEX, z -> z.quote(2, 0, 0, 13));
        Check.refused("quote 13", Check.STATE, z -> z.quote(0, 0, 0, 13));
        Check.refused("quote 60", Check.STATE, z -> z.quote(1, 0, 0, 60));
    }

    // Promise 15
    private static void hush() {
        WordConcordance x = Check.sample();
        x.say(WANTED, 8);
        Check.is("hush", x.hush(WANTED), 2);
        Check.is("hushed", Check.phrase(x, WANTED) + Check.phrase(x, NEW), "[][9, 9, 9]");
        Check.is("hush again", x.hush(WANTED), 0);
        Check.is("hush the other", x.hush(NEW), 3);
        Check.refused("hush phrase 2", Check.INDEX, z -> z.hush(2));
        Check.refused("hush phrase -1", Check.INDEX, z -> z.hush(-1));
    }

    // Promise 16
    private static void wordOf() {
        WordConcordance x = new WordConcordance();
        Check.say(x, WANTED, 4, 6);
        Check.say(x, NEW, 8);
        Check.is("words of both", x.wordOf(WANTED, 0) + " " + x.wordOf(WANTED, 1) + " " + x.wordOf(NEW, 0), "4 6 8");
        Check.refused("wordOf phrase 2", Check.INDEX, z -> z.wordOf(2, 0));
        Check.refused("wordOf phrase -1", Check.INDEX, z -> z.wordOf(-1, 0));
        Check.refused("wordOf at 3 of 3", Check.INDEX, z -> z.wordOf(NEW, 3));
        Check.refused("wordOf at -1", Check.INDEX, z -> z.wordOf(NEW, -1));
        Check.refused("wordOf at 12", Check.INDEX, z -> z.wordOf(NEW, 12));
    }

    private static WordConcordance looking(int[] wanted, int... words) {
        WordConcordance x = Check.of(words);
        Check.say(x, WANTED, wanted);
        return x;
    }

    // Promise 17
    private static void find() {
        Check.is("find", looking(new int[] {1, 2}, 1, 1, 2, 1, 2).find(0), 1);
        Check.is("find at the front", looking(new int[] {1}, 1, 1).find(0), 0);
        Check.is("find at the end", looking(new int[] {8, 9}, 1, 8, 8, 9).find(0), 2);
        Check.is("find all of the text", looking(new int[] {8, 9}, 8, 9).find(0), 0);
        Check.is("find what begins only", looking(new int[] {8, 9}, 9, 8).find(0), -1);
        Check.is("find more than the text", looking(new int[] {8, 9, 9}, 8, 9).find(0), -1);
        Check.is("find no words", looking(new int[] {}, 8, 9).find(0), 0);
        Check.is("find no words in no words", looking(new int[] {}).find(0), 0);
        Check.is("find a word in no words", looking(new int[] {3}).find(0), -1);
        WordConcordance x = Check.sample();
        Check.is("find what removed words were", cutAway(), -1);
        Check.is("find in another text", x.find(1), 0);
        Check.refused("find in text 4", Check.INDEX, z -> z.find(4));
        Check.refused("find in text -1", Check.INDEX, z -> z.find(-1));
    }

    private static int cutAway() {
        WordConcordance x = looking(new int[] {5, 6}, 4, 5, 6);
        x.cut(0, 1, 3);
        return x.find(0);
    }

    // Promise 18
    private static void findLast() {
        Check.is("findLast", looking(new int[] {1, 2}, 1, 2, 1, 2, 1).findLast(0), 2);
        Check.is("findLast at the end", looking(new int[] {1}, 1, 1).findLast(0), 1);
        Check.is("findLast at the front", looking(new int[] {8, 9}, 8, 9, 8).findLast(0), 0);
        Check.is("findLast overlapping", looking(new int[] {1, 2, 1}, 1, 2, 1, 2, 1).findLast(0), 2);
        Check.is("findLast none", looking(new int[] {8, 9}, 9, 8).findLast(0), -1);
        Check.is("findLast more than the text", looking(new int[] {8, 9, 9}, 8, 9).findLast(0), -1);
        Check.is("findLast no words", looking(new int[] {}, 8, 9).findLast(0), 2);
        Check.is("findLast no words in no words", looking(new int[] {}).findLast(0), 0);
        Check.refused("findLast in text 4", Check.INDEX, z -> z.findLast(4));
        Check.refused("findLast in text -1", Check.INDEX, z -> z.findLast(-1));
    }

    // Promise 19
    private static void findIn() {
        WordConcordance x = looking(new int[] {1, 2}, 1, 2, 1, 2, 1);
        Check.is("findIn all", x.findIn(0, 0, 5), 0);
        Check.is("findIn behind the first", x.findIn(0, 1, 5), 2);
        Check.is("findIn just its part", x.findIn(0, 2, 4), 2);
        Check.is("findIn cut off at the end", x.findIn(0, 1, 3), -1);
        Check.is("findIn cut off at the front", x.findIn(0, 3, 5), -1);
        Check.is("findIn one word", x.findIn(0, 2, 3), -1);
        Check.is("findIn no part", x.findIn(0, 5, 5), -1);
        x.hush(WANTED);
        Check.is("findIn no words", x.findIn(0, 3, 5), 3);
        Check.is("findIn no words in no part", x.findIn(0, 5, 5), 5);
        Check.refused("findIn text 4", Check.INDEX, z -> z.findIn(4, 0, 0));
        Check.refused("findIn text -1", Check.INDEX, z -> z.findIn(-1, 0, 0));
        Check.refused("findIn from -1", Check.INDEX, z -> z.findIn(1, -1, 2));
        Check.refused("findIn backwards", Check.INDEX, z -> z.findIn(1, 3, 2));
        Check.refused("findIn to 5 of 4", Check.INDEX, z -> z.findIn(1, 0, 5));
    }

    // Promise 20
    private static void count() {
        WordConcordance x = looking(new int[] {3, 3}, 3, 3, 3, 3, 3, 1, 3, 3);
        Check.is("count", x.count(0, false), 5);
        Check.is("count apart", x.count(0, true), 3);
        Check.is("count in no words", x.count(1, false) + x.count(1, true), 0);
        x.hush(WANTED);
        Check.is("count no words", x.count(0, false), 9);
        Check.is("count no words apart", x.count(0, true), 9);
        Check.is("count no words in no words", x.count(1, false), 1);
        Check.is("count no words apart in no words", x.count(1, true), 1);
        WordConcordance y = looking(new int[] {1, 2, 1}, 1, 2, 1, 2, 1, 2, 1);
        Check.is("count overlapping", y.count(0, false), 3);
        Check.is("count overlapping apart", y.count(0, true), 2);
        Check.refused("count in text 4", Check.INDEX, z -> z.count(4, true));
        Check.refused("count in text -1", Check.INDEX, z -> z.count(-1, false));
    }

    private static String replaced(int times, int[] wanted, int[] fresh, int... words) {
        WordConcordance x = looking(wanted, words);
        Check.say(x, NEW, fresh);
        Check.is("replace", x.replace(0), times);
        Check.is("the phrases after it", Check.phrase(x, WANTED) + Check.phrase(x, NEW),
            java.util.Arrays.toString(wanted) + java.util.Arrays.toString(fresh));
        return Check.words(x, 0);
    }

    // Promise 21
    private static void replace() {
        Check.is("replaced by less", replaced(2, new int[] {1, 2}, new int[] {9}, 1, 2, 3, 1, 2), "[9, 3, 9]");
        Check.is("replaced by more", replaced(2, new int[] {1}, new int[] {9, 8}, 0, 1, 1, 7), "[0, 9, 8, 9, 8, 7]");
        Check.is("replaced by nothing", replaced(2, new int[] {3, 3}, new int[] {}, 3, 3, 3, 3, 3), "[3]");
        Check.is("replaced apart", replaced(1, new int[] {1, 2, 1}, new int[] {5}, 1, 2, 1, 2, 1), "[5, 2, 1]");
        Check.is("not replaced", replaced(0, new int[] {4}, new int[] {5, 5}, 1, 2, 1), "[1, 2, 1]");
        Check.is("replaced once only", replaced(2, new int[] {3}, new int[] {3, 3}, 3, 3), "[3, 3, 3, 3]");
        Check.is("not made anew", replaced(1, new int[] {1, 2}, new int[] {1}, 1, 2, 2), "[1, 2]");
        Check.is("nothing replaced in nothing", replaced(0, new int[] {1}, new int[] {2}), "[]");
        WordConcordance x = new WordConcordance();
        x.addMany(1, 4, 30);
        Check.say(x, WANTED, 4);
        Check.say(x, NEW, 4, 5);
        Check.is("replace up to the limit", x.replace(1), 30);
        Check.is("up to the limit", x.size(1) + " " + x.at(1, 58) + " " + x.at(1, 59), "60 4 5");
        Check.is("replace beyond the limit", Check.answer(x, z -> z.replace(1)), Check.STATE.getName());
        Check.is("the limit stays", x.size(1) + " " + x.at(1, 0) + " " + x.at(1, 59), "60 4 5");
        Check.say(x, WANTED, 6);
        Check.is("replace nothing in a full text", x.replace(1), 0);
        Check.say(x, NEW, 6);
        Check.say(x, WANTED, 5);
        Check.is("replace as many in a full text", x.replace(1), 30);
    }

    private static void refusedReplace() {
        WordConcordance x = Check.sample();
        x.hush(WANTED);
        String before = Check.state(x);
        Check.is("replace no words", Check.answer(x, z -> z.replace(1)), Check.STATE.getName());
        Check.is("replace no words in no words", Check.answer(x, z -> z.replace(2)), Check.STATE.getName());
        Check.is("replace no words in text 4", Check.answer(x, z -> z.replace(4)), Check.INDEX.getName());
        Check.is("after replacing no words", Check.state(x), before);
        WordConcordance y = new WordConcordance();
        y.addMany(0, 1, 58);
        y.add(0, 2);
        Check.say(y, WANTED, 2);
        Check.say(y, NEW, 3, 3, 3);
        before = Check.state(y);
        Check.is("replace to 61", Check.answer(y, z -> z.replace(0)), Check.STATE.getName());
        Check.is("after replacing to 61", Check.state(y), before);
        Check.refused("replace in text 4", Check.INDEX, z -> z.replace(4));
        Check.refused("replace in text -1", Check.INDEX, z -> z.replace(-1));
    }
}
