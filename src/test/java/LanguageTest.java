import java.io.IOException;
import java.lang.reflect.Field;
import java.lang.reflect.Method;
import java.lang.reflect.Modifier;
import java.nio.file.Files;
import java.nio.file.Path;
import java.util.Arrays;
import java.util.List;
import java.util.Set;
import java.util.regex.Matcher;
import java.util.regex.Pattern;

/** The rules of LANGUAGE.md that can be seen from outside or by words of the source; of the face, see FaceTest. */
public final class LanguageTest {
    private static final Path SOURCE = Path.of("src/main/java/PushedOver.java");
    private static final List<String> NEVER = List.of("throw", "throws", "try", "catch", "finally", "synchronized",
        "assert", "import", "package", "protected", "->", "::", "Exact", "Object", "hashCode", "toString",
        "equals", "Random", "Thread", "double", "float");
    private static final Checks is = new Checks("LanguageTest");

    public static void main(String[] args) throws IOException {
        fields();
        classesInside();
        words(withoutComments(Files.readString(SOURCE)));
        is.end();
    }

    private static void fields() {
        for (Field f : PushedOver.class.getDeclaredFields()) {
            int m = f.getModifiers();
            is.holds(f.getName() + ": what is static is final", !Modifier.isStatic(m) || Modifier.isFinal(m));
        }
    }

    private static void classesInside() {
        Class<?>[] inside = PushedOver.class.getDeclaredClasses();
        is.holds("twelve classes at most", inside.length < 12);
        for (Class<?> c : inside) {
            is.holds(c.getName() + " is static", Modifier.isStatic(c.getModifiers()));
            is.holds(c.getName() + " is not public", !Modifier.isPublic(c.getModifiers()));
            long fields = Arrays.stream(c.getDeclaredFields()).filter(f -> !Modifier.isStatic(f.getModifiers())).count();
            is.holds(c.getName() + " has twenty fields at most", fields <= 20);
            for (Method m : c.getDeclaredMethods()) {
                is.holds(m.getName() + " takes seven at most", m.getParameterCount() <= 7);
            }
        }
    }

    private static String withoutComments(String source) {
        return source.replaceAll("(?s)/\\*.*?\\*/", " ").replaceAll("//[^\n]*", " ");
    }

    private static void words(String source) {
        for (String word : NEVER) {
            boolean isName = Character.isLetter(word.charAt(0)) && !word.equals("Exact");
            Pattern p = Pattern.compile(isName ? "\\b" + word + "\\b" : Pattern.quote(word));
            is.holds("the source is without " + word, !p.matcher(source).find());
        }
        Matcher library = Pattern.compile("\\b(Math|System|Integer|Long|Arrays)\\.(\\w+)").matcher(source);
        Set<String> allowed = Set.of("Math.min", "Math.max", "Math.abs", "System.arraycopy");
        while (library.find()) {
            is.holds(library.group() + " is of the library", allowed.contains(library.group()));
        }
    }
}
