import java.util.ArrayList;
import java.util.List;

/** What the tests of the document's sentences share: a test for a sentence, and the limits of what a call takes. */
abstract class Sentences {
    static final Class<? extends RuntimeException> INDEX = Check.INDEX;
    static final Class<? extends RuntimeException> ARGUMENT = Check.ARGUMENT;
    static final Class<? extends RuntimeException> STATE = Check.STATE;
    static final Class<? extends RuntimeException> NO_ELEMENT = Check.NO_ELEMENT;
    static final Room EMPTY = Room.EMPTY;
    static final Room SAMPLE = Room.SAMPLE;
    static final Room FULL = Room.FULL;
    static final Room ONE = Room.ONE;
    static final int LEAST = Integer.MIN_VALUE;
    static final int GREATEST = Integer.MAX_VALUE;
    static final int WANTED = WordConcordance.WANTED;
    static final int NEW = WordConcordance.NEW;
    static final int BY_NUMBER = WordConcordance.BY_NUMBER;
    static final int BY_RANK = WordConcordance.BY_RANK;

    /** The parts of a state that is read by Room.state; the texts have their own numbers. */
    static final int WANTED_PART = 4;
    static final int NEW_PART = 5;
    static final int RANKS_PART = 6;

    private static int promise;
    private static int mostChanged;
    private static String sentence;

    interface NumberCall {
        Object on(WordConcordance x, int number);
    }

    interface PlaceCall {
        Object on(WordConcordance x, int text, int place);
    }

    interface PartCall {
        Object on(WordConcordance x, int text, int from, int to);
    }

    /** A promise whose call asks only: its sentences come next. */
    static void asks(int number) {
        promise = number;
        mostChanged = 0;
    }

    /** A promise whose call may change one text, one phrase or the ranks; 0 for what stands before the first promise. */
    static void changes(int number) {
        promise = number;
        mostChanged = 1;
    }

    /** A test of one sentence of the document, told in its own words. */
    static void says(String words, Runnable test) {
        Document.said(promise, words);
        sentence = words;
        Object end = Check.answer(null, x -> {
            test.run();
            return "ends";
        });
        is("the test", end, "ends");
    }

    static void is(String what, Object got, Object due) {
        Check.is("promise " + promise + ", \"" + sentence + "\": " + what, got, due);
    }

    static WordConcordance of(int... words) {
        return Room.of(words);
    }

    static String words(WordConcordance x, int text) {
        return Room.words(x, text);
    }

    static String phrase(WordConcordance x, int phrase) {
        return Room.phrase(x, phrase);
    }

    /** The call throws just this exception, and all stands as before. */
    static void refused(Class<? extends RuntimeException> due, Room room, Check.Call call) {
        refused(due, room, "the refused call", call);
    }

    private static void refused(Class<? extends RuntimeException> due, Room room, String what, Check.Call call) {
        WordConcordance x = room.open();
        is(what, Check.answer(x, call), due.getName());
        is("what stands after " + what, Room.state(x), Room.state(room.open()));
    }

    /** The call throws nothing, and changes no more than it may. */
    static void taken(Room room, Check.Call call) {
        taken(room, "the call", call);
    }

    private static void taken(Room room, String what, Check.Call call) {
        WordConcordance x = room.open();
        Object answer = Check.answer(x, call);
        is(what + " is taken, not answered with " + answer, answer instanceof String, false);
        is(what + " changes no more than it may", changed(x, room).size() <= mostChanged, true);
    }

    /** The call answers this, and all stands as before. */
    static void told(Room room, Object due, Check.Call call) {
        WordConcordance x = room.open();
        is("the answer", Check.answer(x, call), due);
        is("what is changed after it", changed(x, room), List.of());
    }

    /** The call answers this, and changes just this part. */
    static void done(Room room, Object due, int part, Check.Call call) {
        WordConcordance x = room.open();
        is("the answer", Check.answer(x, call), due);
        is("what is changed after it", changed(x, room), List.of(part));
    }

    /** All stands as before the call, as told by none of the calls that Room.state asks, which may change what they read. */
    static void kept(Room room, Check.Call call) {
        WordConcordance x = room.open();
        Check.answer(x, call);
        is("what other calls tell after it", glance(x), glance(room.open()));
    }

    private static String glance(WordConcordance x) {
        StringBuilder all = new StringBuilder();
        for (int text = 0; text < 4; text++) {
            int one = text;
            all.append(x.digest(text)).append(' ').append(x.find(text)).append(' ');
            all.append(Check.answer(x, z -> z.greatest(one, BY_RANK))).append(Check.answer(x, z -> z.least(one, BY_RANK))).append(' ');
            all.append(Check.answer(x, z -> z.replace(one))).append(' ').append(x.digest(text)).append(' ');
        }
        return all.toString();
    }

    private static List<Integer> changed(WordConcordance x, Room room) {
        List<String> before = Room.state(room.open());
        List<String> after = Room.state(x);
        List<Integer> all = new ArrayList<>();
        for (int part = 0; part < before.size(); part++) {
            if (!before.get(part).equals(after.get(part))) {
                all.add(part);
            }
        }
        return all;
    }

    /** In this room the call takes the numbers from first to last, and refuses all others. */
    static void limits(Class<? extends RuntimeException> due, Room room, int first, int last, NumberCall call) {
        taken(room, "with " + first, x -> call.on(x, first));
        taken(room, "with " + last, x -> call.on(x, last));
        refusedBeside(due, room, first, last, call);
    }

    private static void refusedBeside(Class<? extends RuntimeException> due, Room room, int first, int last, NumberCall call) {
        if (first > LEAST) {
            refused(due, room, "with " + (first - 1), x -> call.on(x, first - 1));
            refused(due, room, "with the least number", x -> call.on(x, LEAST));
        }
        if (last < GREATEST) {
            refused(due, room, "with " + (last + 1), x -> call.on(x, last + 1));
            refused(due, room, "with the greatest number", x -> call.on(x, GREATEST));
        }
    }

    /** No number is taken. */
    static void never(Class<? extends RuntimeException> due, Room room, NumberCall call) {
        for (int number : new int[] {0, 1, -1, 59, 60, LEAST, GREATEST}) {
            refused(due, room, "with " + number, x -> call.on(x, number));
        }
    }

    /** The numbers from first to last are taken in this room; all others are refused in every room. */
    static void numbers(Room room, int first, int last, NumberCall call) {
        for (int number = first; number <= last; number++) {
            int one = number;
            taken(room, "with " + number, x -> call.on(x, one));
        }
        for (Room other : new Room[] {EMPTY, ONE, SAMPLE, FULL}) {
            refusedBeside(INDEX, other, first, last, call);
        }
    }

    static void text(Room room, NumberCall call) {
        says("text: number of a text", () -> numbers(room, 0, 3, call));
    }

    static void one(Room room, NumberCall call) {
        says("one: number of a text", () -> numbers(room, 0, 3, call));
    }

    static void word(Room room, NumberCall call) {
        says("word: a word", () -> numbers(room, 0, 99, call));
    }

    static void phraseNumber(Room room, NumberCall call) {
        says("phrase: WANTED or NEW", () -> numbers(room, WANTED, NEW, call));
    }

    /** Places of words: of four words, of sixty, and of none. */
    static void places(String sentence, PlaceCall call) {
        says(sentence, () -> {
            limits(INDEX, SAMPLE, 0, 3, (x, place) -> call.on(x, 1, place));
            limits(INDEX, SAMPLE, 0, 59, (x, place) -> call.on(x, 0, place));
            never(INDEX, SAMPLE, (x, place) -> call.on(x, 2, place));
            never(INDEX, EMPTY, (x, place) -> call.on(x, 0, place));
        });
    }

    /** Where a part of four words, of sixty, or of none may begin and end; no part is longer than twelve words. */
    static void part(PartCall call) {
        says("from: where the part begins", () -> {
            limits(INDEX, SAMPLE, 0, 4, (x, from) -> call.on(x, 1, from, 4));
            limits(INDEX, SAMPLE, 0, 2, (x, from) -> call.on(x, 1, from, 2));
            limits(INDEX, SAMPLE, 0, 0, (x, from) -> call.on(x, 1, from, 0));
            limits(INDEX, SAMPLE, 0, 12, (x, from) -> call.on(x, 0, from, 12));
            limits(INDEX, SAMPLE, 0, 0, (x, from) -> call.on(x, 2, from, 0));
            taken(SAMPLE, x -> call.on(x, 0, 60, 60));
        });
        says("to: where it ends", () -> {
            limits(INDEX, SAMPLE, 0, 4, (x, to) -> call.on(x, 1, 0, to));
            limits(INDEX, SAMPLE, 2, 4, (x, to) -> call.on(x, 1, 2, to));
            limits(INDEX, SAMPLE, 4, 4, (x, to) -> call.on(x, 1, 4, to));
            limits(INDEX, SAMPLE, 48, 60, (x, to) -> call.on(x, 0, 48, to));
            limits(INDEX, SAMPLE, 60, 60, (x, to) -> call.on(x, 0, 60, to));
            limits(INDEX, SAMPLE, 0, 0, (x, to) -> call.on(x, 2, 0, to));
        });
    }

    /** Parts that do not exist: each end wrong, both, turned about, and so far apart that their difference wraps around. */
    static void noParts(PartCall call) {
        int[][] wrong = {{-1, 0}, {-1, -1}, {-1, 4}, {0, 5}, {4, 5}, {5, 5}, {5, 4}, {2, 1}, {4, 3}, {1, 0}, {0, -1},
            {-1, 5}, {5, -1}, {LEAST, GREATEST}, {GREATEST, LEAST}, {LEAST, LEAST}, {GREATEST, GREATEST},
            {LEAST, 4}, {0, GREATEST}, {LEAST, 0}, {4, LEAST}, {GREATEST, 4}, {4, GREATEST}, {-2, GREATEST}, {LEAST, 1}};
        for (int[] part : wrong) {
            refused(INDEX, SAMPLE, "part " + part[0] + ", " + part[1], x -> call.on(x, 1, part[0], part[1]));
        }
        for (int[] part : new int[][] {{0, 61}, {60, 61}, {61, 61}, {61, 60}, {-1, 60}, {60, 59}, {59, 61}}) {
            refused(INDEX, SAMPLE, "part " + part[0] + ", " + part[1], x -> call.on(x, 0, part[0], part[1]));
        }
        for (int[] part : new int[][] {{0, 1}, {1, 1}, {1, 0}, {-1, 0}, {-1, -1}, {0, -1}}) {
            refused(INDEX, SAMPLE, "part " + part[0] + ", " + part[1], x -> call.on(x, 2, part[0], part[1]));
        }
    }
}
