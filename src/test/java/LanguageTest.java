import java.io.IOException;
import java.lang.reflect.Field;
import java.lang.reflect.Method;
import java.lang.reflect.Modifier;
import java.nio.file.Files;
import java.nio.file.Path;
import java.util.Arrays;
import java.util.HashSet;
import java.util.List;
import java.util.Set;
import java.util.TreeSet;
import java.util.regex.Matcher;
import java.util.regex.Pattern;

/** The rules of LANGUAGE.md that can be seen from outside or by words of the source. */
public final class LanguageTest {
    private static final Path SOURCE = Path.of("src/main/java/PushedOver.java");
    private static final String FACE = "back(0) copy(5) count(1) digest(0) does(1) engine(3) enough(1) fault(1) get(3) "
        + "gives(2) hill(2) late(2) lay(4) lose(1) minute(2) off(1) order(1) over(0) read(1) safe(1) set(2) settles(0) "
        + "sheet(3) slack(1) squeeze(1) start(2) strain(3) swings(0) torn(0) train(1) type(2) undo(1) wagon(1) "
        + "whistles(4) wipe(1) words(1) write(2)";
    private static final Set<String> LONGS = Set.of("strain", "whistles", "digest");
    private static final List<String> NEVER = List.of("throw", "throws", "try", "catch", "finally", "synchronized",
        "assert", "import", "package", "protected", "->", "::", "Exact", "Object", "hashCode", "toString",
        "equals", "Random", "Thread", "double", "float");
    private static final Checks is = new Checks("LanguageTest");

    public static void main(String[] args) throws IOException {
        face();
        constants();
        classesInside();
        words(withoutComments(Files.readString(SOURCE)));
        is.end();
    }

    private static void face() {
        Class<?> c = PushedOver.class;
        is.holds("public and final", Modifier.isPublic(c.getModifiers()) && Modifier.isFinal(c.getModifiers()));
        is.due("constructors", c.getDeclaredConstructors().length, 1);
        Set<String> face = new TreeSet<>();
        Set<String> hidden = new HashSet<>();
        for (Method m : c.getDeclaredMethods()) {
            if (Modifier.isPrivate(m.getModifiers())) {
                hidden.add(m.getName());
                continue;
            }
            face.add(m.getName() + "(" + m.getParameterCount() + ")");
            boolean isLong = m.getReturnType() == long.class;
            is.holds(m.getName() + " is public", Modifier.isPublic(m.getModifiers()));
            is.holds(m.getName() + " answers as told", isLong == LONGS.contains(m.getName()));
        }
        is.holds("the face is " + face, String.join(" ", face).equals(FACE));
        for (String name : FACE.split("\\(\\d\\) ?")) {
            is.holds("no private method is called " + name, !hidden.contains(name));
        }
    }

    private static void constants() {
        Set<String> seen = new TreeSet<>();
        for (Field f : PushedOver.class.getDeclaredFields()) {
            int m = f.getModifiers();
            if (!Modifier.isPrivate(m)) {
                seen.add(f.getName());
            }
            is.holds(f.getName() + ": what is static is final", !Modifier.isStatic(m) || Modifier.isFinal(m));
        }
        is.holds("constants are " + seen, seen.equals(Set.of("NONE", "BAD", "NOT", "FULL")));
    }

    private static void classesInside() {
        Class<?>[] inside = PushedOver.class.getDeclaredClasses();
        is.holds("twelve classes at most", inside.length < 12);
        for (Class<?> c : inside) {
            is.holds(c.getName() + " is static", Modifier.isStatic(c.getModifiers()));
            is.holds(c.getName() + " is not public", !Modifier.isPublic(c.getModifiers()));
            long fields = Arrays.stream(c.getDeclaredFields()).filter(f -> !Modifier.isStatic(f.getModifiers())).count();
            is.holds(c.getName() + " has twenty fields at most", fields <= 20);
            for (Method m : c.getDeclaredMethods()) {
                is.holds(m.getName() + " takes seven at most", m.getParameterCount() <= 7);
            }
        }
    }

    private static String withoutComments(String source) {
        return source.replaceAll("(?s)/\\*.*?\\*/", " ").replaceAll("//[^\n]*", " ");
    }

    private static void words(String source) {
        for (String word : NEVER) {
            boolean isName = Character.isLetter(word.charAt(0)) && !word.equals("Exact");
            Pattern p = Pattern.compile(isName ? "\\b" + word + "\\b" : Pattern.quote(word));
            is.holds("the source is without " + word, !p.matcher(source).find());
        }
        Matcher library = Pattern.compile("\\b(Math|System|Integer|Long|Arrays)\\.(\\w+)").matcher(source);
        Set<String> allowed = Set.of("Math.min", "Math.max", "Math.abs", "System.arraycopy");
        while (library.find()) {
            is.holds(library.group() + " is of the library", allowed.contains(library.group()));
        }
    }
}
