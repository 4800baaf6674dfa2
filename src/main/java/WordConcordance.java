import java.util.NoSuchElementException;

/** Four texts and two phrases of words, which are numbers; see README.md. */
public final class WordConcordance {
    public static final int NONE = -1;
    public static final int FOUND = -2;
    public static final int WANTED = 0, NEW = 1;
    public static final int BY_NUMBER = 0, BY_RANK = 1;

    private static final int TEXTS = 4;
    private static final int PHRASES = 2;
    private static final int WORDS = 100;
    private static final int MOST_IN_TEXT = 60;
    private static final int MOST_IN_PHRASE = 12;
    private static final int HIGHEST_RANK = 9;
    private static final int TEXT_WEIGHT = 100;

    private static final int PUT_WORD = 0, ADD_WORD = 1, REMOVE_PLACE = 2, ASK_BEHIND_END = 3, MAKE_NEGATIVE = 4;

    private final Row[] texts = new Row[TEXTS];
    private final Row[] phrases = new Row[PHRASES];
    private final int[] ranks = new int[WORDS];

    // Rows to work in are made once: a call that makes its own would use up the room of a long run.
    private final Row draft = new Row(new int[MOST_IN_TEXT]);
    private final Row trial = new Row(new int[MOST_IN_TEXT]);
    private final Row trialPhrase = new Row(new int[MOST_IN_PHRASE]);
    private final int[] runs = new int[MOST_IN_TEXT + 1];

    public WordConcordance() {
        for (int text = 0; text < TEXTS; text++) {
            texts[text] = new Row(new int[MOST_IN_TEXT]);
        }
        for (int phrase = 0; phrase < PHRASES; phrase++) {
            phrases[phrase] = new Row(new int[MOST_IN_PHRASE]);
        }
    }

    // ---- texts

    public int add(int text, int word) throws IndexOutOfBoundsException, IllegalStateException {
        Row row = textAt(text);
        requireWord(word);
        requireRoom(row, 1);
        row.append(word);
        return row.length;
    }

    public int addMany(int text, int word, int many) throws IndexOutOfBoundsException, IllegalArgumentException, IllegalStateException {
        Row row = textAt(text);
        requireWord(word);
        requireNotNegative(many);
        requireRoom(row, many);
        for (int i = 0; i < many; i++) {
            row.append(word);
        }
        return row.length;
    }

    public int scatter(int text, int many, int range, int seed) throws IndexOutOfBoundsException, IllegalArgumentException, IllegalStateException {
        Row row = textAt(text);
        requireWithin(many, 0, MOST_IN_TEXT);
        requireWithin(range, 1, WORDS);
        requireNotNegative(seed);
        requireRoom(row, many);
        long drawn = seed;
        for (int i = 0; i < many; i++) {
            drawn = (drawn * 1103515245L + 12345L) & 0x7fffffffL;
            row.append((int) (drawn / 65536L % range));
        }
        return row.length;
    }

    public int insert(int text, int place, int word) throws IndexOutOfBoundsException, IllegalStateException {
        Row row = textAt(text);
        requireWord(word);
        requirePart(row, place, row.length);
        requireRoom(row, 1);
        row.openUp(place, word);
        return row.length;
    }

    public int set(int text, int place, int word) throws IndexOutOfBoundsException {
        Row row = textAt(text);
        requirePlace(row, place);
        requireWord(word);
        int before = row.words[place];
        row.words[place] = word;
        return before;
    }

    public int remove(int text, int place) throws IndexOutOfBoundsException {
        Row row = textAt(text);
        requirePlace(row, place);
        int removed = row.words[place];
        row.closeUp(place, place + 1);
        return removed;
    }

    public int cut(int text, int from, int to) throws IndexOutOfBoundsException {
        Row row = textAt(text);
        requirePart(row, from, to);
        row.closeUp(from, to);
        return row.length;
    }

    public int size(int text) throws IndexOutOfBoundsException {
        return textAt(text).length;
    }

    public int at(int text, int place) throws IndexOutOfBoundsException {
        Row row = textAt(text);
        requirePlace(row, place);
        return row.words[place];
    }

    public int digest(int text) throws IndexOutOfBoundsException {
        Row row = textAt(text);
        int sum = 7;
        for (int i = 0; i < row.length; i++) {
            sum = sum * 31 + row.words[i];
        }
        return sum;
    }

    public int setRank(int word, int rank) throws IndexOutOfBoundsException, IllegalArgumentException {
        requireWord(word);
        requireWithin(rank, -HIGHEST_RANK, HIGHEST_RANK);
        int before = ranks[word];
        ranks[word] = rank;
        return before;
    }

    // ---- phrases

    public int say(int phrase, int word) throws IndexOutOfBoundsException, IllegalStateException {
        Row row = phraseAt(phrase);
        requireWord(word);
        requireRoom(row, 1);
        row.append(word);
        return row.length;
    }

    public int quote(int phrase, int text, int from, int to) throws IndexOutOfBoundsException, IllegalStateException {
        Row quoted = phraseAt(phrase);
        Row row = textAt(text);
        requirePart(row, from, to);
        if (to - from > MOST_IN_PHRASE) {
            throw new IllegalStateException("too many words for a phrase");
        }
        quoted.length = 0;
        for (int i = from; i < to; i++) {
            quoted.append(row.words[i]);
        }
        return quoted.length;
    }

    public int hush(int phrase) throws IndexOutOfBoundsException {
        Row row = phraseAt(phrase);
        int before = row.length;
        row.length = 0;
        return before;
    }

    public int wordOf(int phrase, int place) throws IndexOutOfBoundsException {
        Row row = phraseAt(phrase);
        requirePlace(row, place);
        return row.words[place];
    }

    public int find(int text) throws IndexOutOfBoundsException {
        Row row = textAt(text);
        return row.firstPlaceOf(phrases[WANTED], 0, row.length);
    }

    public int findLast(int text) throws IndexOutOfBoundsException {
        return textAt(text).lastPlaceOf(phrases[WANTED]);
    }

    public int findIn(int text, int from, int to) throws IndexOutOfBoundsException {
        Row row = textAt(text);
        requirePart(row, from, to);
        return row.firstPlaceOf(phrases[WANTED], from, to);
    }

    public int count(int text, boolean isApart) throws IndexOutOfBoundsException {
        Row row = textAt(text);
        Row wanted = phrases[WANTED];
        return isApart ? row.timesApart(wanted) : row.timesAnywhere(wanted);
    }

    public int replace(int text) throws IndexOutOfBoundsException, IllegalStateException {
        Row row = textAt(text);
        Row wanted = phrases[WANTED];
        if (wanted.length == 0) {
            throw new IllegalStateException("the wanted phrase has no words");
        }
        int times = row.timesApart(wanted);
        requireRoom(row, times * (phrases[NEW].length - wanted.length));
        draftReplaced(row);
        row.become(draft);
        return times;
    }

    private void draftReplaced(Row row) {
        Row wanted = phrases[WANTED];
        Row fresh = phrases[NEW];
        int end = row.length;
        int next = 0;
        draft.length = 0;
        for (int place = 0; place < end; place++) {
            if (place < next) {
                continue;
            }
            if (row.holds(wanted, place)) {
                draft.appendAll(fresh);
                next = place + wanted.length;
            } else {
                draft.append(row.words[place]);
            }
        }
    }

    // ---- words

    public boolean replaceWord(int text, int word, int other) throws IndexOutOfBoundsException {
        Row row = textAt(text);
        requireWord(word);
        requireWord(other);
        boolean stood = false;
        for (int i = 0; i < row.length; i++) {
            if (row.words[i] == word) {
                row.words[i] = other;
                stood = true;
            }
        }
        return stood;
    }

    public int frequency(int text, int word) throws IndexOutOfBoundsException {
        Row row = textAt(text);
        requireWord(word);
        return row.timesOf(word);
    }

    public int different(int text) throws IndexOutOfBoundsException {
        Row row = textAt(text);
        int many = 0;
        for (int i = 0; i < row.length; i++) {
            if (row.isFirstOfItsWord(i)) {
                many++;
            }
        }
        return many;
    }

    public int most(int text) throws IndexOutOfBoundsException, NoSuchElementException {
        Row row = textAt(text);
        requireNotEmpty(row);
        int chosen = NONE;
        int times = 0;
        for (int i = 0; i < row.length; i++) {
            int word = row.words[i];
            int wordTimes = row.timesOf(word);
            if (wordTimes > times || wordTimes == times && word < chosen) {
                chosen = word;
                times = wordTimes;
            }
        }
        return chosen;
    }

    public boolean isApart(int one, int other) throws IndexOutOfBoundsException {
        Row row = textAt(one);
        Row second = textAt(other);
        for (int i = 0; i < row.length; i++) {
            if (second.hasWord(row.words[i])) {
                return false;
            }
        }
        return true;
    }

    public int alone(int one, int other) throws IndexOutOfBoundsException {
        Row row = textAt(one);
        Row second = textAt(other);
        int many = 0;
        for (int i = 0; i < row.length; i++) {
            if (row.isFirstOfItsWord(i) && !second.hasWord(row.words[i])) {
                many++;
            }
        }
        return many;
    }

    // ---- orders

    public int greatest(int text, int order) throws IndexOutOfBoundsException, IllegalArgumentException, NoSuchElementException {
        Row row = textAt(text);
        requireOrder(order);
        requireNotEmpty(row);
        int chosen = keyOf(row.words[0], order);
        for (int i = 1; i < row.length; i++) {
            chosen = Math.max(chosen, keyOf(row.words[i], order));
        }
        return chosen;
    }

    public int least(int text, int order) throws IndexOutOfBoundsException, IllegalArgumentException, NoSuchElementException {
        Row row = textAt(text);
        requireOrder(order);
        requireNotEmpty(row);
        int chosen = keyOf(row.words[0], order);
        for (int i = 1; i < row.length; i++) {
            chosen = Math.min(chosen, keyOf(row.words[i], order));
        }
        return chosen;
    }

    public int sort(int text, int order, boolean isDown) throws IndexOutOfBoundsException, IllegalArgumentException {
        Row row = textAt(text);
        requireOrder(order);
        draft.become(row);
        putInOrder(row, order, isDown);
        return row.differencesFrom(draft);
    }

    public boolean isSorted(int text, int order) throws IndexOutOfBoundsException, IllegalArgumentException {
        Row row = textAt(text);
        requireOrder(order);
        return isInOrder(row, order);
    }

    public int search(int text, int order, int word) throws IndexOutOfBoundsException, IllegalArgumentException, IllegalStateException {
        Row row = textAt(text);
        requireWord(word);
        requireOrder(order);
        if (!isInOrder(row, order)) {
            throw new IllegalStateException("the text is not sorted");
        }
        int key = keyOf(word, order);
        for (int i = 0; i < row.length; i++) {
            int keyHere = keyOf(row.words[i], order);
            if (keyHere == key) {
                return FOUND;
            }
            if (keyHere > key) {
                return i;
            }
        }
        return row.length;
    }

    private int keyOf(int word, int order) {
        return order == BY_RANK ? ranks[word] : word;
    }

    private boolean isInOrder(Row row, int order) {
        for (int i = 1; i < row.length; i++) {
            if (keyOf(row.words[i], order) < keyOf(row.words[i - 1], order)) {
                return false;
            }
        }
        return true;
    }

    // A word never passes another one that is alike: so these stay as they stood.
    private void putInOrder(Row row, int order, boolean isDown) {
        for (int end = 1; end < row.length; end++) {
            int word = row.words[end];
            int place = end;
            while (place > 0 && mustPass(word, row.words[place - 1], order, isDown)) {
                row.words[place] = row.words[place - 1];
                place--;
            }
            row.words[place] = word;
        }
    }

    private boolean mustPass(int word, int other, int order, boolean isDown) {
        int key = keyOf(word, order);
        int otherKey = keyOf(other, order);
        return isDown ? key > otherKey : key < otherKey;
    }

    // ---- parts

    public int turn(int text, int from, int to) throws IndexOutOfBoundsException {
        Row row = textAt(text);
        requirePart(row, from, to);
        row.turnRound(from, to);
        return to - from;
    }

    public int move(int text, int from, int to, int distance) throws IndexOutOfBoundsException {
        Row row = textAt(text);
        requirePart(row, from, to);
        return moveRound(row, from, to, distance);
    }

    private int moveRound(Row row, int from, int to, int distance) {
        int many = to - from;
        if (many <= 0) {
            return 0;
        }
        int up = Math.floorMod(distance, many);
        draft.become(row);
        for (int i = 0; i < many; i++) {
            row.words[from + (i + up) % many] = draft.words[from + i];
        }
        return up;
    }

    public int swap(int text, int one, int other) throws IndexOutOfBoundsException {
        Row row = textAt(text);
        requirePlace(row, one);
        requirePlace(row, other);
        row.exchange(one, other);
        return row.words[one];
    }

    public int fill(int text, int from, int to, int word) throws IndexOutOfBoundsException {
        Row row = textAt(text);
        requirePart(row, from, to);
        requireWord(word);
        int changed = 0;
        for (int i = from; i < to; i++) {
            if (row.words[i] != word) {
                row.words[i] = word;
                changed++;
            }
        }
        return changed;
    }

    public int copy(int one, int to) throws IndexOutOfBoundsException, IllegalStateException {
        Row row = textAt(one);
        Row target = textAt(to);
        if (target.length < row.length) {
            throw new IllegalStateException("the other text has fewer words");
        }
        for (int i = 0; i < row.length; i++) {
            target.words[i] = row.words[i];
        }
        return target.length;
    }

    // ---- places

    public int stands(int word, int which) throws IndexOutOfBoundsException, NoSuchElementException {
        requireWord(word);
        int passed = 0;
        for (int text = 0; text < TEXTS; text++) {
            Row row = texts[text];
            for (int place = 0; place < row.length; place++) {
                if (row.words[place] == word) {
                    if (passed == which) {
                        return text * TEXT_WEIGHT + place;
                    }
                    passed++;
                }
            }
        }
        throw new NoSuchElementException("the word does not stand so often");
    }

    public int near(int text, int place, int word) throws IndexOutOfBoundsException {
        Row row = textAt(text);
        requirePlace(row, place);
        requireWord(word);
        int nearest = NONE;
        for (int i = 0; i < row.length; i++) {
            if (row.words[i] == word && (nearest == NONE || Math.abs(i - place) < Math.abs(nearest - place))) {
                nearest = i;
            }
        }
        return nearest;
    }

    public int common(int one, int other, int what) throws IndexOutOfBoundsException, IllegalArgumentException {
        Row row = textAt(one);
        Row second = textAt(other);
        requireWithin(what, 0, 2);
        clearRuns();
        int longest = 0;
        int begin = 0;
        int stand = 0;
        for (int place = row.length - 1; place >= 0; place--) {
            int where = longestRunFrom(row, place, second);
            // From the back on, one that is as long begins before the one that was found.
            if (where != NONE && runs[where] >= longest) {
                longest = runs[where];
                begin = place;
                stand = where;
            }
        }
        return what == 0 ? longest : what == 1 ? begin : stand;
    }

    private void clearRuns() {
        for (int i = 0; i < runs.length; i++) {
            runs[i] = 0;
        }
    }

    /** Turns the runs that begin at place + 1 into those that begin at place; the first of the longest, or NONE. */
    private int longestRunFrom(Row row, int place, Row second) {
        int where = NONE;
        int longest = 0;
        for (int i = 0; i < second.length; i++) {
            runs[i] = second.words[i] == row.words[place] ? runs[i + 1] + 1 : 0;
            if (runs[i] > longest) {
                longest = runs[i];
                where = i;
            }
        }
        return where;
    }

    // ---- what must be refused

    public boolean refuses(int what) throws IllegalArgumentException {
        requireWithin(what, PUT_WORD, MAKE_NEGATIVE);
        return isRefused(what);
    }

    // What is caught here is thrown by Copies itself, which holds no array: never by the machine.
    private static boolean isRefused(int what) {
        try {
            attempt(what);
        } catch (UnsupportedOperationException refusal) {
            return what == PUT_WORD || what == ADD_WORD || what == REMOVE_PLACE;
        } catch (IndexOutOfBoundsException refusal) {
            return what == ASK_BEHIND_END;
        } catch (IllegalArgumentException refusal) {
            return what == MAKE_NEGATIVE;
        }
        return false;
    }

    private static void attempt(int what) {
        int many = what == MAKE_NEGATIVE ? -1 : 1;
        Copies copies = Copies.of(0, many);
        if (what == PUT_WORD) {
            copies.putAt(0, 1);
        } else if (what == ADD_WORD) {
            copies.append(1);
        } else if (what == REMOVE_PLACE) {
            copies.takeOut(0);
        } else if (what == ASK_BEHIND_END) {
            copies.wordAt(many);
        }
    }

    // ---- checks

    public int errors(int text) throws IndexOutOfBoundsException {
        Row row = textAt(text);
        int failed = 0;
        failed += turnsBack(row) ? 0 : 1;
        failed += movesBack(row) ? 0 : 1;
        failed += sortsItsWords(row) ? 0 : 1;
        failed += findsWhatItCounts(row) ? 0 : 1;
        failed += findsInMirror(row) ? 0 : 1;
        return failed;
    }

    private boolean turnsBack(Row row) {
        trial.become(row);
        trial.turnRound(0, trial.length);
        trial.turnRound(0, trial.length);
        return trial.differencesFrom(row) == 0;
    }

    private boolean movesBack(Row row) {
        trial.become(row);
        moveRound(trial, 0, trial.length, 1);
        moveRound(trial, 0, trial.length, -1);
        return trial.differencesFrom(row) == 0;
    }

    private boolean sortsItsWords(Row row) {
        trial.become(row);
        putInOrder(trial, BY_NUMBER, false);
        for (int i = 0; i < row.length; i++) {
            if (trial.timesOf(row.words[i]) != row.timesOf(row.words[i])) {
                return false;
            }
        }
        return isInOrder(trial, BY_NUMBER);
    }

    private boolean findsWhatItCounts(Row row) {
        Row wanted = phrases[WANTED];
        boolean isFound = row.firstPlaceOf(wanted, 0, row.length) != NONE;
        int apart = row.timesApart(wanted);
        int anywhere = row.timesAnywhere(wanted);
        return apart <= anywhere && (apart > 0) == isFound && (anywhere > 0) == isFound;
    }

    private boolean findsInMirror(Row row) {
        Row wanted = phrases[WANTED];
        trial.become(row);
        trial.turnRound(0, trial.length);
        trialPhrase.become(wanted);
        trialPhrase.turnRound(0, trialPhrase.length);
        int mirrored = trial.firstPlaceOf(trialPhrase, 0, trial.length);
        int last = row.lastPlaceOf(wanted);
        return mirrored == NONE ? last == NONE : last == row.length - wanted.length - mirrored;
    }

    // ---- shares

    public double meanWord(int text) throws IndexOutOfBoundsException {
        Row row = textAt(text);
        if (row.length == 0) {
            return 0.0;
        }
        int total = 0;
        for (int i = 0; i < row.length; i++) {
            total += row.words[i];
        }
        return (double) total / (double) row.length;
    }

    public float share(int text, int word) throws IndexOutOfBoundsException {
        Row row = textAt(text);
        requireWord(word);
        if (row.length == 0) {
            return 0.0f;
        }
        return (float) row.timesOf(word) / (float) row.length;
    }

    // ---- what a call may ask

    private Row textAt(int text) {
        if (text < 0 || text >= TEXTS) {
            throw new IndexOutOfBoundsException("no such text");
        }
        return texts[text];
    }

    private Row phraseAt(int phrase) {
        if (phrase != WANTED && phrase != NEW) {
            throw new IndexOutOfBoundsException("no such phrase");
        }
        return phrases[phrase];
    }

    private static void requireWord(int word) {
        if (word < 0 || word >= WORDS) {
            throw new IndexOutOfBoundsException("no such word");
        }
    }

    private static void requirePlace(Row row, int place) {
        if (place < 0 || place >= row.length) {
            throw new IndexOutOfBoundsException("no such place");
        }
    }

    private static void requirePart(Row row, int from, int to) {
        if (from < 0 || to < from || to > row.length) {
            throw new IndexOutOfBoundsException("no such part");
        }
    }

    private static void requireWithin(int number, int lowest, int highest) {
        if (number < lowest || number > highest) {
            throw new IllegalArgumentException("out of range");
        }
    }

    private static void requireNotNegative(int number) {
        if (number < 0) {
            throw new IllegalArgumentException("less than 0");
        }
    }

    private static void requireOrder(int order) {
        if (order != BY_NUMBER && order != BY_RANK) {
            throw new IllegalArgumentException("no such order");
        }
    }

    private static void requireRoom(Row row, int more) {
        if (more > row.words.length - row.length) {
            throw new IllegalStateException("too many words");
        }
    }

    private static void requireNotEmpty(Row row) {
        if (row.length == 0) {
            throw new NoSuchElementException("the text has no words");
        }
    }

    /** The words of a text or a phrase. Its methods trust their caller to have looked at places and room. */
    private static final class Row {
        private final int[] words;
        private int length;

        Row(int[] words) {
            this.words = words;
        }

        void append(int word) {
            words[length] = word;
            length++;
        }

        void appendAll(Row other) {
            // Taken once: a bound that append could move would not show where the loop ends.
            int many = other.length;
            for (int i = 0; i < many; i++) {
                append(other.words[i]);
            }
        }

        void become(Row other) {
            length = 0;
            appendAll(other);
        }

        void openUp(int place, int word) {
            for (int i = length; i > place; i--) {
                words[i] = words[i - 1];
            }
            words[place] = word;
            length++;
        }

        void closeUp(int from, int to) {
            int gap = to - from;
            for (int i = to; i < length; i++) {
                words[i - gap] = words[i];
            }
            length -= gap;
        }

        void exchange(int one, int other) {
            int word = words[one];
            words[one] = words[other];
            words[other] = word;
        }

        void turnRound(int from, int to) {
            int half = (to - from) / 2;
            for (int i = 0; i < half; i++) {
                exchange(from + i, to - 1 - i);
            }
        }

        int timesOf(int word) {
            int times = 0;
            for (int i = 0; i < length; i++) {
                if (words[i] == word) {
                    times++;
                }
            }
            return times;
        }

        boolean hasWord(int word) {
            return timesOf(word) > 0;
        }

        boolean isFirstOfItsWord(int place) {
            for (int i = 0; i < place; i++) {
                if (words[i] == words[place]) {
                    return false;
                }
            }
            return true;
        }

        int differencesFrom(Row other) {
            int many = 0;
            for (int i = 0; i < length && i < other.length; i++) {
                if (words[i] != other.words[i]) {
                    many++;
                }
            }
            return many;
        }

        boolean holds(Row phrase, int place) {
            if (place > length - phrase.length) {
                return false;
            }
            for (int i = 0; i < phrase.length; i++) {
                if (words[place + i] != phrase.words[i]) {
                    return false;
                }
            }
            return true;
        }

        int firstPlaceOf(Row phrase, int from, int to) {
            for (int place = from; place <= to - phrase.length; place++) {
                if (holds(phrase, place)) {
                    return place;
                }
            }
            return NONE;
        }

        int lastPlaceOf(Row phrase) {
            for (int place = length - phrase.length; place >= 0; place--) {
                if (holds(phrase, place)) {
                    return place;
                }
            }
            return NONE;
        }

        int timesAnywhere(Row phrase) {
            int times = 0;
            for (int place = 0; place <= length - phrase.length; place++) {
                if (holds(phrase, place)) {
                    times++;
                }
            }
            return times;
        }

        int timesApart(Row phrase) {
            int times = 0;
            int next = 0;
            for (int place = 0; place <= length - phrase.length; place++) {
                if (place >= next && holds(phrase, place)) {
                    times++;
                    next = place + phrase.length;
                }
            }
            return times;
        }
    }

    /** A row of copies of one word: it can be asked, and refuses every change. */
    private static final class Copies {
        private final int word;
        private final int many;

        private Copies(int word, int many) {
            this.word = word;
            this.many = many;
        }

        static Copies of(int word, int many) {
            if (many < 0) {
                throw new IllegalArgumentException("fewer than no copies");
            }
            return new Copies(word, many);
        }

        int wordAt(int place) {
            if (place < 0 || place >= many) {
                throw new IndexOutOfBoundsException("no such place");
            }
            return word;
        }

        void putAt(int place, int other) {
            throw new UnsupportedOperationException("the copies never change");
        }

        void append(int other) {
            throw new UnsupportedOperationException("the copies never change");
        }

        void takeOut(int place) {
            throw new UnsupportedOperationException("the copies never change");
        }
    }
}
