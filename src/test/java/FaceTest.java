import java.io.IOException;
import java.lang.reflect.Constructor;
import java.lang.reflect.Field;
import java.lang.reflect.Method;
import java.lang.reflect.Modifier;
import java.nio.file.Files;
import java.nio.file.Path;
import java.util.Arrays;
import java.util.HashMap;
import java.util.List;
import java.util.Map;
import java.util.Set;
import java.util.TreeSet;
import java.util.regex.Matcher;
import java.util.regex.Pattern;
import java.util.stream.Collectors;

/** "The public face": all that the document's block tells, as it is told, and nothing public beside it. */
public final class FaceTest {
    private static final Path SOURCE = Path.of("src/main/java/PushedOver.java");
    private static final Class<?> CLASS = PushedOver.class;
    private static final Checks is = new Checks("FaceTest");

    public static void main(String[] args) throws IOException, ReflectiveOperationException {
        String told = Document.PROMISED.blocks("java").get(0);
        String source = Files.readString(SOURCE);
        theClass(told);
        constants(told);
        constructor(told);
        methods(told);
        nothingBeside();
        namesOfNumbers(told, source);
        headings(told, source);
        is.end();
    }

    private static void theClass(String told) {
        is.holds("the document's class is told", told.startsWith("public final class PushedOver {\n"));
        is.holds("it is public and final, no more", CLASS.getModifiers() == (Modifier.PUBLIC | Modifier.FINAL));
        is.holds("it is a class by itself", CLASS.getSuperclass() == Object.class && !CLASS.isRecord());
        is.due("interfaces", CLASS.getInterfaces().length, 0);
        is.due("type parameters", CLASS.getTypeParameters().length, 0);
        is.holds("it has no package", CLASS.getPackageName().isEmpty());
    }

    private static void constants(String told) throws IllegalAccessException {
        Matcher m = Pattern.compile("\\b([A-Z]+) = (-?\\d+)[,;]").matcher(told);
        Map<String, Integer> due = new HashMap<>();
        while (m.find()) {
            due.put(m.group(1), Integer.parseInt(m.group(2)));
        }
        is.due("constants that are told", due.size(), 4);
        int constant = Modifier.PUBLIC | Modifier.STATIC | Modifier.FINAL;
        for (Field f : CLASS.getDeclaredFields()) {
            if (Modifier.isPrivate(f.getModifiers())) {
                continue;
            }
            is.holds(f.getName() + " is told", due.containsKey(f.getName()));
            is.holds(f.getName() + " is a constant int", f.getModifiers() == constant && f.getType() == int.class);
            is.due(f.getName(), f.getInt(null), due.getOrDefault(f.getName(), Told.LEAST));
            due.remove(f.getName());
        }
        is.holds("constants that are missing: " + due.keySet(), due.isEmpty());
    }

    private static void constructor(String told) {
        is.holds("it is told", told.contains("    public PushedOver();\n"));
        Constructor<?>[] all = CLASS.getDeclaredConstructors();
        is.due("constructors", all.length, 1);
        is.holds("it is public", all[0].getModifiers() == Modifier.PUBLIC);
        is.due("its numbers", all[0].getParameterCount(), 0);
        is.due("what it throws", all[0].getExceptionTypes().length, 0);
    }

    /** "public int type(int, int)", without the names of numbers, which a class file need not keep. */
    private static Set<String> methodsThatAreTold(String told) {
        Matcher m = Pattern.compile("(?m)^    (public \\w+ \\w+)\\((.*)\\);$").matcher(told);
        Set<String> all = new TreeSet<>();
        while (m.find()) {
            all.add(m.group(1) + "(" + m.group(2).replaceAll("(\\w+) \\w+", "$1") + ")");
        }
        return all;
    }

    private static String asTold(Method m) {
        String kinds = Arrays.stream(m.getParameterTypes()).map(Class::getSimpleName).collect(Collectors.joining(", "));
        String modifiers = Modifier.toString(m.getModifiers());
        return modifiers + " " + m.getReturnType().getSimpleName() + " " + m.getName() + "(" + kinds + ")";
    }

    private static void methods(String told) {
        Set<String> due = methodsThatAreTold(told);
        is.due("methods that are told", due.size(), 37);
        Set<String> names = new TreeSet<>();
        Set<String> seen = new TreeSet<>();
        for (Method m : CLASS.getDeclaredMethods()) {
            if (!Modifier.isPrivate(m.getModifiers())) {
                seen.add(asTold(m));
                names.add(m.getName());
                is.due(m.getName() + ": what it throws", m.getExceptionTypes().length, 0);
            }
        }
        is.holds("methods are " + seen, seen.equals(due));
        is.due("names of methods", names.size(), 37);
        noneHiddenBehind(names, CLASS);
        for (Class<?> inside : CLASS.getDeclaredClasses()) {
            noneHiddenBehind(names, inside);
        }
    }

    /** LANGUAGE.md, 1: no private method bears the name of a public one. */
    private static void noneHiddenBehind(Set<String> names, Class<?> c) {
        for (Method m : c.getDeclaredMethods()) {
            boolean isHidden = Modifier.isPrivate(m.getModifiers());
            is.holds("no private method is called " + m.getName(), !isHidden || !names.contains(m.getName()));
        }
    }

    private static void nothingBeside() {
        List<Method> ofAll = Arrays.asList(Object.class.getMethods());
        long more = Arrays.stream(CLASS.getMethods()).filter(m -> !ofAll.contains(m)).count();
        is.due("public methods, inherited ones too", more, 37);
        is.due("public constants", CLASS.getFields().length, 4);
        is.due("public classes inside", CLASS.getClasses().length, 0);
        for (Class<?> c : CLASS.getDeclaredClasses()) {
            is.holds(c.getName() + " is not protected", !Modifier.isProtected(c.getModifiers()));
            is.holds(c.getName() + " is static", Modifier.isStatic(c.getModifiers()));
        }
    }

    private static void namesOfNumbers(String told, String source) {
        for (String line : told.split("\n")) {
            if (line.endsWith(");")) {
                String head = line.substring(0, line.length() - 1) + " {\n";
                is.holds("the source has" + line, source.contains(head));
            }
        }
    }

    /** "Ahead of the calls .. the interface says: ---- ..": so does the source, in the document's order. */
    private static void headings(String told, String source) {
        Pattern sentence = Pattern.compile("(?m)^Ahead of the calls (.+) the interface says: (---- .+)\\.$");
        Matcher m = sentence.matcher(Document.PROMISED.text());
        int from = 0, calls = 0;
        while (m.find()) {
            from = source.indexOf("    // " + m.group(2) + "\n", from);
            is.holds("the source says " + m.group(2), from >= 0);
            int next = source.indexOf("    // ---- ", from + 1);
            for (String name : m.group(1).replace("`", "").split(", ")) {
                int at = source.indexOf(" " + name + "(", from);
                is.holds(name + " comes behind it", from >= 0 && at > from && (at < next || next < 0));
                is.holds(name + " is told", told.contains(" " + name + "("));
                calls++;
            }
        }
        is.due("calls behind headings", calls, 37);
    }
}
