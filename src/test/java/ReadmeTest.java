import java.io.File;
import java.io.IOException;
import java.nio.charset.StandardCharsets;
import java.nio.file.FileVisitOption;
import java.nio.file.Files;
import java.nio.file.Path;
import java.util.ArrayList;
import java.util.Comparator;
import java.util.List;
import java.util.Set;
import java.util.TreeSet;
import java.util.regex.Matcher;
import java.util.regex.Pattern;
import java.util.stream.Stream;

/** README.md, followed word for word in a copy of the project: what it says is so. */
public final class ReadmeTest {
    private static final Document README = new Document(Path.of("README.md"));
    private static final Checks is = new Checks("ReadmeTest");

    public static void main(String[] args) throws IOException, InterruptedException {
        Path room = Files.createTempDirectory("readme");
        try {
            Path project = room.resolve("main");
            copyAll(Path.of("src"), project.resolve("src"));
            copyAll(Path.of("../shared"), room.resolve("shared"));
            follow(project);
        } finally {
            removeAll(room);
        }
        callsOfTheFace();
        testsThatThereAre();
        refusals();
        is.end();
    }

    private static void copyAll(Path from, Path to) throws IOException {
        try (Stream<Path> all = Files.walk(from, FileVisitOption.FOLLOW_LINKS)) {
            for (Path p : (Iterable<Path>) all::iterator) {
                Path there = to.resolve(from.relativize(p).toString());
                if (Files.isDirectory(p)) {
                    Files.createDirectories(there);
                } else {
                    Files.copy(p, there);
                }
            }
        }
    }

    private static void removeAll(Path room) throws IOException {
        try (Stream<Path> all = Files.walk(room)) {
            all.sorted(Comparator.reverseOrder()).map(Path::toFile).forEach(File::delete);
        }
    }

    private static void follow(Path project) throws IOException, InterruptedException {
        List<String> commands = README.blocks("sh");
        is.due("blocks of commands", commands.size(), 4);
        is.due("blocks of Java", README.blocks("java").size(), 1);
        is.due("blocks of what is printed", README.blocks("text").size(), 1);
        Files.writeString(project.resolve("Example.java"), README.blocks("java").get(0));
        String printed = run(project, commands.get(0));
        is.holds("the example prints what is told, but:\n" + printed, printed.equals(README.blocks("text").get(0)));
        // Run here, it would run this test again: that it stands and may be run has to do.
        is.holds("the tests are run by .ci/run", commands.get(1).equals(".ci/run\n"));
        is.holds(".ci/run may be run", Files.isExecutable(Path.of(".ci/run")));
        String byItself = run(project, commands.get(2));
        is.holds("one test by itself tells: " + byItself, byItself.matches("\\d+ passed, 0 failed\n"));
        String shared = run(project, commands.get(3));
        is.holds("a shared test by itself tells: " + shared, shared.equals("all answers are as due\n"));
    }

    private static String run(Path folder, String commands) throws IOException, InterruptedException {
        ProcessBuilder shell = new ProcessBuilder("sh", "-e", "-c", commands);
        Process p = shell.directory(folder.toFile()).redirectErrorStream(true).start();
        String printed = new String(p.getInputStream().readAllBytes(), StandardCharsets.UTF_8);
        is.due("the end of " + commands, p.waitFor(), 0);
        return printed;
    }

    private static List<String> all(String pattern, String text) {
        Matcher m = Pattern.compile(pattern).matcher(text);
        List<String> found = new ArrayList<>();
        while (m.find()) {
            found.add(m.group(1));
        }
        return found;
    }

    /** The rows of the table of calls are the document's face, in its order, without the kinds. */
    private static void callsOfTheFace() {
        String face = Document.PROMISED.blocks("java").get(0);
        List<String> told = all("public (?:int|long) (\\w+\\(.*\\));", face);
        told.replaceAll(call -> call.replace("int ", ""));
        List<String> rows = all("(?m)^\\| `(\\w+\\([^`]*\\))` \\|", README.text());
        is.due("calls that README.md tells", rows.size(), 37);
        is.holds("they are " + rows, rows.equals(told));
    }

    private static void testsThatThereAre() throws IOException {
        Set<String> files = new TreeSet<>();
        try (Stream<Path> all = Files.list(Path.of("src/test/java"))) {
            all.map(p -> p.getFileName().toString()).forEach(files::add);
        }
        Set<String> told = new TreeSet<>();
        String tests = README.text().substring(README.text().indexOf("What each test is about:"));
        for (String name : all("`([A-Z][A-Za-z]+)`", tests)) {
            told.add(name + ".java");
        }
        is.holds("the tests are " + files + ", README.md tells " + told, told.equals(files));
    }

    private static void refusals() {
        String[] names = {"NONE", "BAD", "NOT", "FULL"};
        int[] values = {PushedOver.NONE, PushedOver.BAD, PushedOver.NOT, PushedOver.FULL};
        for (int i = 0; i < names.length; i++) {
            String row = "| `" + names[i] + "` (" + values[i] + ") |";
            is.holds("README.md has " + row, README.text().contains(row));
        }
        is.due("the least long and 2 more", new PushedOver().strain(40, 0, 0), Told.LONG_BAD);
        is.due("the least long and 3 more", new PushedOver().strain(0, 0, 0), Told.LONG_NOT);
        is.due("the least int", new PushedOver().get(4, 0, 0), Told.LEAST);
    }
}
