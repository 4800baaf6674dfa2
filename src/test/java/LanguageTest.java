import java.io.IOException;
import java.lang.reflect.Constructor;
import java.lang.reflect.Field;
import java.lang.reflect.Method;
import java.lang.reflect.Modifier;
import java.nio.charset.StandardCharsets;
import java.nio.file.Files;
import java.nio.file.Path;
import java.util.HashSet;
import java.util.Set;
import java.util.regex.Matcher;
import java.util.regex.Pattern;

/** Those rules of ../shared/LANGUAGE.md that can be seen from the text and the members of the class. */
public final class LanguageTest {
    private static final Path SOURCE = Path.of("src/main/java/WordConcordance.java");
    private static final String FORBIDDEN = "->|::|\\b(synchronized|assert|finally|protected|native|transient|volatile|var|"
        + "NullPointerException|ArrayIndexOutOfBoundsException|ClassCastException|NegativeArraySizeException|"
        + "ArrayStoreException|Throwable|Exception e|System\\.(?!arraycopy)\\w+|Random|Thread|Object|equals|hashCode|toString|"
        + "NaN|Integer\\.MAX_VALUE|Integer\\.MIN_VALUE|\\w+Exact)\\b|^package";
    private static final String THROWN = "throw(?! new (IllegalStateException|IllegalArgumentException|IndexOutOfBoundsException"
        + "|ArithmeticException|UnsupportedOperationException|NoSuchElementException|RuntimeException)\\((\"[^\"]*\")?\\);)\\s";
    private static final Class<?>[] CLASSES = classes();

    public static void main(String[] args) throws IOException {
        String text = withoutComments(Files.readString(SOURCE, StandardCharsets.US_ASCII));
        Check.is("what is forbidden", found(FORBIDDEN, text), "");
        Check.is("throws of another kind", found(THROWN, text), "");
        Check.is("imports", found("import [^;]*;", text), "import java.util.NoSuchElementException; ");
        Check.is("classes inside", CLASSES.length - 1 <= 12, true);
        Set<String> face = new HashSet<>();
        for (Method method : WordConcordance.class.getDeclaredMethods()) {
            if (Modifier.isPublic(method.getModifiers())) {
                face.add(method.getName());
            }
        }
        for (Class<?> one : CLASSES) {
            members(one, face);
        }
        Check.end();
    }

    private static Class<?>[] classes() {
        Class<?>[] inside = WordConcordance.class.getDeclaredClasses();
        Class<?>[] all = java.util.Arrays.copyOf(inside, inside.length + 1);
        all[inside.length] = WordConcordance.class;
        return all;
    }

    private static void members(Class<?> one, Set<String> face) {
        boolean isInside = one != WordConcordance.class;
        Check.is(one + " is static and not public", !isInside
            || Modifier.isStatic(one.getModifiers()) && !Modifier.isPublic(one.getModifiers()), true);
        for (Method method : one.getDeclaredMethods()) {
            boolean isOfFace = !isInside && Modifier.isPublic(method.getModifiers());
            Check.is(method + " bears a name of its own", isOfFace || !face.contains(method.getName()), true);
            Check.is(method + " takes at most seven", method.getParameterCount() <= 7, true);
        }
        for (Field field : one.getDeclaredFields()) {
            int kind = field.getModifiers();
            Check.is(field + " is final, if static", !Modifier.isStatic(kind) || Modifier.isFinal(kind), true);
            Check.is(field + " is private, or of the face", Modifier.isPrivate(kind) || Modifier.isPublic(kind), true);
        }
        for (Constructor<?> constructor : one.getDeclaredConstructors()) {
            Check.is(constructor + " throws nothing", constructor.getExceptionTypes().length, 0);
        }
    }

    private static String withoutComments(String text) {
        return text.replaceAll("(?s)/\\*.*?\\*/", "").replaceAll("//[^\n]*", "");
    }

    private static String found(String pattern, String text) {
        StringBuilder all = new StringBuilder();
        Matcher matcher = Pattern.compile(pattern, Pattern.MULTILINE).matcher(text);
        while (matcher.find()) {
            all.append(matcher.group()).append(' ');
        }
        return all.toString();
    }
}
