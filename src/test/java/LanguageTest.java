import java.io.IOException;
import java.lang.reflect.Constructor;
import java.lang.reflect.Field;
import java.lang.reflect.Method;
import java.lang.reflect.Modifier;
import java.nio.charset.StandardCharsets;
import java.nio.file.Files;
import java.nio.file.Path;
import java.util.Arrays;
import java.util.HashSet;
import java.util.Set;
import java.util.regex.Matcher;
import java.util.regex.Pattern;

/** Those rules of ../shared/LANGUAGE.md that can be seen from the text, the members and the compiled form of the class. */
public final class LanguageTest {
    private static final Path SOURCE = Path.of("src/main/java/WordConcordance.java");
    private static final String FORBIDDEN = "->|::|\\b(synchronized|assert|finally|protected|native|transient|volatile|var|"
        + "NullPointerException|ArrayIndexOutOfBoundsException|ClassCastException|NegativeArraySizeException|"
        + "ArrayStoreException|Throwable|Exception e|System\\.(?!arraycopy)\\w+|Random|Thread|Object|equals|hashCode|toString|"
        + "NaN|Integer\\.MAX_VALUE|Integer\\.MIN_VALUE|\\w+Exact)\\b|^package";
    private static final String THROWN = "throw(?! new (IllegalStateException|IllegalArgumentException|IndexOutOfBoundsException"
        + "|ArithmeticException|UnsupportedOperationException|NoSuchElementException|RuntimeException)\\((\"[^\"]*\")?\\);)\\s";
    private static final Set<String> LIBRARY = Set.of("java/lang/Object.<init>()V", "java/lang/Math.abs(I)I",
        "java/lang/Math.max(II)I", "java/lang/Math.min(II)I", "java/lang/Math.floorMod(II)I");
    private static final String EXCEPTION = "java/(lang/(IllegalState|IllegalArgument|IndexOutOfBounds|UnsupportedOperation)"
        + "|util/NoSuchElement)Exception\\.<init>\\((Ljava/lang/String;)?\\)V";
    // A head stands in one line; its body ends at the next brace below the beginning of the head.
    private static final Pattern METHOD = Pattern.compile(
        "^( {4}| {8})(?=\\S)(?!if |for |while |switch |do |try |else )[^\\n(=]*?(\\w+)\\([^\\n]*\\{\\n((?s:.*?))^\\1\\}$", Pattern.MULTILINE);
    private static final Class<?>[] CLASSES = classes();

    public static void main(String[] args) throws IOException {
        String text = withoutComments(Files.readString(SOURCE, StandardCharsets.US_ASCII));
        Check.is("what is forbidden", found(FORBIDDEN, text), "");
        Check.is("throws of another kind", found(THROWN, text), "");
        Check.is("imports", found("import [^;]*;", text), "import java.util.NoSuchElementException; ");
        Check.is("classes inside", CLASSES.length - 1 <= 12, true);
        Set<String> face = new HashSet<>();
        for (Method method : WordConcordance.class.getDeclaredMethods()) {
            if (Modifier.isPublic(method.getModifiers())) {
                face.add(method.getName());
            }
        }
        for (Class<?> one : CLASSES) {
            members(one, face);
            library(one);
        }
        Check.is("methods whose bodies are looked at", bodies(text), declared());
        Check.end();
    }

    private static void library(Class<?> one) throws IOException {
        for (String member : Compiled.library(one)) {
            Check.is(one + " may use " + member, LIBRARY.contains(member) || member.matches(EXCEPTION), true);
        }
    }

    /** Looks at each method and constructor of the text, and counts them. */
    private static int bodies(String text) {
        int many = 0;
        Matcher matcher = METHOD.matcher(text);
        while (matcher.find()) {
            many++;
            String name = matcher.group(2);
            String body = matcher.group(3);
            boolean isThrowing = body.contains("throw ");
            Check.is(name + " is short", body.lines().count() <= 60, true);
            Check.is(name + " does not catch where it throws", isThrowing && body.contains("catch "), false);
            Check.is(name + " makes an object without a throw", isThrowing && Character.isUpperCase(name.charAt(0)), false);
        }
        return many;
    }

    private static int declared() {
        int many = 0;
        for (Class<?> one : CLASSES) {
            many += one.getDeclaredMethods().length + one.getDeclaredConstructors().length;
        }
        return many;
    }

    private static Class<?>[] classes() {
        Class<?>[] inside = WordConcordance.class.getDeclaredClasses();
        Class<?>[] all = Arrays.copyOf(inside, inside.length + 1);
        all[inside.length] = WordConcordance.class;
        return all;
    }

    private static void members(Class<?> one, Set<String> face) {
        boolean isInside = one != WordConcordance.class;
        Check.is(one + " is static and not public", !isInside
            || Modifier.isStatic(one.getModifiers()) && !Modifier.isPublic(one.getModifiers()), true);
        for (Method method : one.getDeclaredMethods()) {
            boolean isOfFace = !isInside && Modifier.isPublic(method.getModifiers());
            Check.is(method + " bears a name of its own", isOfFace || !face.contains(method.getName()), true);
            Check.is(method + " takes at most seven", method.getParameterCount() <= 7, true);
        }
        Check.is(one + " has at most twenty fields", Arrays.stream(one.getDeclaredFields())
            .filter(field -> !Modifier.isStatic(field.getModifiers())).count() <= 20, true);
        for (Field field : one.getDeclaredFields()) {
            int kind = field.getModifiers();
            Check.is(field + " is final, if static", !Modifier.isStatic(kind) || Modifier.isFinal(kind), true);
            Check.is(field + " is a number, if static", !Modifier.isStatic(kind) || field.getType() == int.class, true);
            Check.is(field + " is private, or of the face", Modifier.isPrivate(kind) || Modifier.isPublic(kind), true);
        }
        for (Constructor<?> constructor : one.getDeclaredConstructors()) {
            Check.is(constructor + " throws nothing", constructor.getExceptionTypes().length, 0);
        }
    }

    private static String withoutComments(String text) {
        return text.replaceAll("(?s)/\\*.*?\\*/", "").replaceAll("//[^\n]*", "");
    }

    private static String found(String pattern, String text) {
        StringBuilder all = new StringBuilder();
        Matcher matcher = Pattern.compile(pattern, Pattern.MULTILINE).matcher(text);
        while (matcher.find()) {
            all.append(matcher.group()).append(' ');
        }
        return all.toString();
    }
}
