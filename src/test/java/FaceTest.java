import java.io.IOException;
import java.lang.reflect.Constructor;
import java.lang.reflect.Field;
import java.lang.reflect.Method;
import java.lang.reflect.Modifier;
import java.nio.file.Files;
import java.nio.file.Path;
import java.util.Arrays;
import java.util.List;
import java.util.TreeSet;

/** The public face: just the members that the document names, and nothing else that can be seen from outside. */
public final class FaceTest {
    private static final String METHODS = String.join("\n",
        "int add(int,int) IS", "int addMany(int,int,int) IAS", "int scatter(int,int,int,int) IAS",
        "int insert(int,int,int) IS", "int set(int,int,int) I", "int remove(int,int) I", "int cut(int,int,int) I",
        "int size(int) I", "int at(int,int) I", "int digest(int) I", "int setRank(int,int) IA", "int say(int,int) IS",
        "int quote(int,int,int,int) IS", "int hush(int) I", "int wordOf(int,int) I", "int find(int) I",
        "int findLast(int) I", "int findIn(int,int,int) I", "int count(int,boolean) I", "int replace(int) IS",
        "boolean replaceWord(int,int,int) I", "int frequency(int,int) I", "int different(int) I", "int most(int) IN",
        "boolean isApart(int,int) I", "int alone(int,int) I", "int greatest(int,int) IAN", "int least(int,int) IAN",
        "int sort(int,int,boolean) IA", "boolean isSorted(int,int) IA", "int search(int,int,int) IAS",
        "int turn(int,int,int) I", "int move(int,int,int,int) I", "int swap(int,int,int) I", "int fill(int,int,int,int) I",
        "int copy(int,int) IS", "int stands(int,int) IN", "int near(int,int,int) I", "int common(int,int,int) IA",
        "boolean refuses(int) A", "int errors(int) I", "double meanWord(int) I", "float share(int,int) I");

    private static final Path SOURCE = Path.of("src/main/java/WordConcordance.java");
    private static final Path DOCUMENT = Path.of("../shared/DOC.md");

    public static void main(String[] args) throws IOException {
        int kind = WordConcordance.class.getModifiers();
        Check.is("public final class", Modifier.isPublic(kind) && Modifier.isFinal(kind), true);
        Check.is("the methods", methods(), new TreeSet<>(Arrays.asList(METHODS.split("\n"))));
        Check.is("the constants", constants(), new TreeSet<>(Arrays.asList(
            "NONE -1", "FOUND -2", "WANTED 0", "NEW 1", "BY_NUMBER 0", "BY_RANK 1")));
        Constructor<?>[] constructors = WordConcordance.class.getDeclaredConstructors();
        Check.is("one constructor", constructors.length, 1);
        Check.is("it is public", Modifier.isPublic(constructors[0].getModifiers()), true);
        Check.is("it takes nothing", constructors[0].getParameterCount() + constructors[0].getExceptionTypes().length, 0);
        Check.is("the face in the document's own words", told(SOURCE, Files.readAllLines(SOURCE)), told(DOCUMENT, Document.face()));
        Check.end();
    }

    /** What a text declares as public, or imports, without what comes behind a head. */
    private static TreeSet<String> told(Path from, List<String> lines) {
        TreeSet<String> all = new TreeSet<>();
        for (String line : lines) {
            String head = line.strip().replaceFirst("( \\{|;)$", "");
            if ((head.startsWith("public ") || head.startsWith("import ")) && !all.add(head)) {
                all.add("twice in " + from + ": " + head);
            }
        }
        return all;
    }

    private static TreeSet<String> methods() {
        TreeSet<String> all = new TreeSet<>();
        for (Method method : WordConcordance.class.getDeclaredMethods()) {
            if (Modifier.isPrivate(method.getModifiers())) {
                continue;
            }
            StringBuilder line = new StringBuilder();
            line.append(method.getReturnType()).append(' ').append(method.getName()).append('(');
            for (Class<?> parameter : method.getParameterTypes()) {
                line.append(line.charAt(line.length() - 1) == '(' ? "" : ",").append(parameter);
            }
            line.append(") ");
            for (Class<?> thrown : method.getExceptionTypes()) {
                line.append(letterOf(thrown));
            }
            boolean isPlain = method.getModifiers() == Modifier.PUBLIC;
            all.add(isPlain ? line.toString() : "not plainly public: " + line);
        }
        return all;
    }

    private static char letterOf(Class<?> thrown) {
        return thrown == Check.INDEX ? 'I' : thrown == Check.ARGUMENT ? 'A' : thrown == Check.STATE ? 'S'
            : thrown == Check.NO_ELEMENT ? 'N' : '?';
    }

    private static TreeSet<String> constants() {
        TreeSet<String> all = new TreeSet<>();
        for (Field field : WordConcordance.class.getDeclaredFields()) {
            int kind = field.getModifiers();
            if (Modifier.isPrivate(kind)) {
                continue;
            }
            if (kind != (Modifier.PUBLIC | Modifier.STATIC | Modifier.FINAL) || field.getType() != int.class) {
                all.add("no public constant: " + field);
                continue;
            }
            try {
                all.add(field.getName() + " " + field.getInt(null));
            } catch (IllegalAccessException hidden) {
                all.add("not to be read: " + field);
            }
        }
        return all;
    }
}
