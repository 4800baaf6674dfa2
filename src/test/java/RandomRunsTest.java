import java.lang.reflect.InvocationTargetException;
import java.lang.reflect.Method;
import java.util.ArrayList;
import java.util.Arrays;
import java.util.List;
import java.util.Random;

/** All promises: drawn runs of calls, compared with the Model call by call, and in all that stands after each. */
public final class RandomRunsTest {
    private static final int RUNS = 3000;
    // A call and four digests each; with the last look at everything an object stays below its 512 calls.
    private static final int STEPS = 60;

    private final Random random;
    private final WordConcordance x = new WordConcordance();
    private final Model model = new Model();
    private final int words;

    private RandomRunsTest(long seed) {
        random = new Random(seed);
        words = 1 + random.nextInt(random.nextBoolean() ? 4 : 100);
    }

    public static void main(String[] args) throws IllegalAccessException {
        List<Method> calls = calls();
        for (int run = 0; run < RUNS; run++) {
            new RandomRunsTest(run).run(run, calls);
        }
        Check.end();
    }

    private static List<Method> calls() {
        List<Method> all = new ArrayList<>();
        for (Method method : WordConcordance.class.getDeclaredMethods()) {
            if (java.lang.reflect.Modifier.isPublic(method.getModifiers())) {
                all.add(method);
            }
        }
        // The machine may name the methods in any order: sorted, the runs are always the same.
        all.sort(java.util.Comparator.comparing(Method::getName));
        for (String filling : new String[] {"scatter", "addMany", "say", "insert", "quote"}) {
            for (Method method : List.copyOf(all)) {
                if (method.getName().equals(filling)) {
                    all.add(method);
                }
            }
        }
        return all;
    }

    private void run(int run, List<Method> calls) throws IllegalAccessException {
        for (int step = 0; step < STEPS; step++) {
            Method call = calls.get(random.nextInt(calls.size()));
            int[] p = draw(call);
            String name = "run " + run + ", step " + step + ": " + call.getName() + Arrays.toString(p);
            Check.is(name, answer(call, p), due(call, p));
            for (int text = 0; text < 4; text++) {
                Check.is(name + ", then digest(" + text + ")", x.digest(text), model.ask("digest", new int[] {text}));
            }
        }
        lookAtAll(run);
    }

    private void lookAtAll(int run) {
        for (int text = 0; text < 4; text++) {
            Check.is("run " + run + ", size of " + text, x.size(text), model.texts.get(text).size());
        }
        for (int phrase = 0; phrase < 2; phrase++) {
            Check.is("run " + run + ", phrase " + phrase, Room.phrase(x, phrase), model.phrases.get(phrase).toString());
        }
        for (int word = 0; word < 100; word++) {
            Check.is("run " + run + ", rank of " + word, x.setRank(word, 0), model.ranks[word]);
        }
    }

    private Object answer(Method call, int[] p) throws IllegalAccessException {
        Object[] given = new Object[p.length];
        for (int i = 0; i < p.length; i++) {
            given[i] = call.getParameterTypes()[i] == boolean.class ? (Object) (p[i] == 1) : (Object) p[i];
        }
        try {
            Object got = call.invoke(x, given);
            return got instanceof Boolean b ? (Object) (b ? 1 : 0) : got;
        } catch (InvocationTargetException thrown) {
            return thrown.getCause().getClass().getName();
        }
    }

    private Object due(Method call, int[] p) {
        try {
            return model.ask(call.getName(), p);
        } catch (IndexOutOfBoundsException thrown) {
            return IndexOutOfBoundsException.class.getName();
        } catch (IllegalArgumentException | IllegalStateException | java.util.NoSuchElementException thrown) {
            return thrown.getClass().getName();
        }
    }

    private int[] draw(Method call) {
        int[] p = new int[call.getParameterCount()];
        String kinds = kinds(call.getName());
        for (int i = 0; i < p.length; i++) {
            p[i] = random.nextInt(40) == 0 ? anything() : ordinary(kinds.charAt(i), p[Math.max(0, kinds.indexOf('t'))]);
        }
        for (int i = 0; i < p.length; i++) {
            if (call.getParameterTypes()[i] == boolean.class) {
                p[i] &= 1;
            }
        }
        // A part whose ends are drawn apart is backwards half the time: put most of them right.
        int from = kinds.indexOf("pp");
        if (from >= 0 && !call.getName().equals("swap") && p[from] > p[from + 1] && random.nextInt(8) != 0) {
            int to = p[from];
            p[from] = p[from + 1];
            p[from + 1] = to;
        }
        return p;
    }

    /** A letter for each parameter: t text, f phrase, w word, p place, o order or flag, n number, r range, k rank. */
    private static String kinds(String call) {
        switch (call) {
            case "add": case "frequency": case "share": return "tw";
            case "addMany": return "twn";
            case "scatter": return "tnrs";
            case "insert": case "set": return "tpw";
            case "remove": case "at": return "tp";
            case "cut": case "findIn": case "turn": case "swap": return "tpp";
            case "setRank": return "wk";
            case "say": return "fw";
            case "quote": return "ftpp";
            case "hush": return "f";
            case "wordOf": return "fp";
            case "count": case "greatest": case "least": case "isSorted": return "to";
            case "replaceWord": return "tww";
            case "isApart": case "alone": case "copy": return "tt";
            case "sort": return "too";
            case "search": return "tow";
            case "move": return "tpps";
            case "fill": return "tppw";
            case "stands": return "wn";
            case "near": return "tpw";
            case "common": return "ttn";
            case "refuses": return "n";
            default: return "t";
        }
    }

    private int ordinary(char kind, int text) {
        switch (kind) {
            case 't': return random.nextInt(4);
            case 'f': return random.nextInt(2);
            case 'w': return random.nextInt(words);
            case 'p': return random.nextInt(1 + Math.max(1, model.texts.get(text & 3).size()));
            case 'o': return random.nextInt(2);
            case 'n': return random.nextInt(random.nextInt(4) == 0 ? 30 : 4);
            case 'r': return words;
            case 'k': return random.nextInt(19) - 9;
            default: return random.nextInt(60) - 10;
        }
    }

    private int anything() {
        int[] edges = {-1, 0, 1, 2, 3, 4, 5, 11, 12, 13, 59, 60, 61, 99, 100, 101, -9, -10, 9, 10,
            Integer.MAX_VALUE, Integer.MIN_VALUE, Integer.MAX_VALUE - 1, -2};
        return edges[random.nextInt(edges.length)];
    }
}
