import java.io.File;
import java.io.IOException;
import java.lang.reflect.Method;
import java.lang.reflect.Modifier;
import java.nio.file.Files;
import java.nio.file.Path;
import java.util.ArrayList;
import java.util.Comparator;
import java.util.List;
import java.util.Set;
import java.util.TreeSet;
import java.util.regex.Matcher;
import java.util.regex.Pattern;
import java.util.stream.Stream;

/** What README.md says is so when it is tried; run from the directory in which it stands. */
public final class ReadmeTest {
    private static final Pattern CALL = Pattern.compile("`(\\w+)\\(([^)`]*)\\)`");
    private static final Pattern FIRST_IN_ROW = Pattern.compile("(?m)^\\| `(\\w+)` \\|");

    private ReadmeTest() {
    }

    public static void main(String[] args) throws IOException, InterruptedException {
        String readme = Files.readString(Path.of("README.md"));
        programAndCommands(readme);
        calls(section(readme, "### The calls"));
        classesInside(section(readme, "## How it is built"));
        tests(section(readme, "## How to run the tests"));
        keptInMind();
        Check.finish("ReadmeTest");
    }

    /** From a heading to the next one. */
    private static String section(String readme, String heading) {
        int from = readme.indexOf(heading + "\n");
        Check.due("README.md has " + heading, from >= 0, true);
        if (from < 0) {
            return "";
        }
        int to = readme.indexOf("\n#", from + 1);
        return to < 0 ? readme.substring(from) : readme.substring(from, to);
    }

    private static List<String> blocks(String readme, String sort) {
        List<String> found = new ArrayList<>();
        Matcher m = Pattern.compile("(?s)```" + sort + "\n(.*?)```").matcher(readme);
        while (m.find()) {
            found.add(m.group(1));
        }
        return found;
    }

    /** In a directory that has links alone, so that nothing is left behind in this one. */
    private static void programAndCommands(String readme) throws IOException, InterruptedException {
        Check.part("the program and the commands");
        Path room = Files.createTempDirectory("readme");
        try {
            Path here = Files.createDirectory(room.resolve("main"));
            Files.createSymbolicLink(here.resolve("src"), Path.of("src").toAbsolutePath());
            Files.createSymbolicLink(room.resolve("shared"), Path.of("../shared").toAbsolutePath().normalize());
            Check.due("programs", blocks(readme, "java").size(), 1);
            Check.due("what they print", blocks(readme, "text").size(), 1);
            Files.writeString(here.resolve("Junction.java"), String.join("", blocks(readme, "java")));
            int tried = 0;
            for (String block : blocks(readme, "sh")) {
                // That is what runs this test.
                if (!block.contains(".ci/run")) {
                    String printed = runAll(here, block);
                    if (block.contains("Junction")) {
                        Check.dueText("what Junction prints", printed, String.join("", blocks(readme, "text")));
                        tried++;
                    }
                }
            }
            Check.due("commands that run the program", tried, 1);
        } finally {
            removeAll(room);
        }
    }

    private static String runAll(Path here, String block) throws IOException, InterruptedException {
        File printed = here.resolve("printed").toFile();
        Process process = new ProcessBuilder("sh", "-e", "-c", block).directory(here.toFile())
                .redirectErrorStream(true).redirectOutput(printed).start();
        int code = process.waitFor();
        String text = Files.readString(printed.toPath());
        Check.due(block + text + "exit code", code, 0);
        return text;
    }

    private static void removeAll(Path room) throws IOException {
        try (Stream<Path> inside = Files.walk(room)) {
            for (Path path : inside.sorted(Comparator.reverseOrder()).toList()) {
                Files.delete(path);
            }
        }
    }

    private static void calls(String part) {
        Check.part("the calls");
        Set<String> told = new TreeSet<>();
        Matcher m = CALL.matcher(part);
        while (m.find()) {
            int with = m.group(2).isEmpty() ? 0 : m.group(2).split(",").length;
            Check.due(m.group(1) + " is told once", told.add(m.group(1) + " " + with), true);
        }
        Set<String> there = new TreeSet<>();
        for (Method method : LeverFrame.class.getDeclaredMethods()) {
            if (Modifier.isPublic(method.getModifiers())) {
                there.add(method.getName() + " " + method.getParameterCount());
            }
        }
        Check.dueText("calls", told.toString(), there.toString());
    }

    private static Set<String> firstInRows(String part) {
        Set<String> names = new TreeSet<>();
        Matcher m = FIRST_IN_ROW.matcher(part);
        while (m.find()) {
            names.add(m.group(1));
        }
        return names;
    }

    private static void classesInside(String part) {
        Check.part("the classes inside");
        Set<String> there = new TreeSet<>();
        for (Class<?> inside : LeverFrame.class.getDeclaredClasses()) {
            there.add(inside.getSimpleName());
        }
        Check.dueText("classes", firstInRows(part).toString(), there.toString());
    }

    private static void tests(String part) {
        Check.part("the tests");
        Set<String> there = new TreeSet<>();
        String[] files = new File("src/test/java").list();
        for (String file : files == null ? new String[0] : files) {
            if (file.endsWith("Test.java")) {
                there.add(file.substring(0, file.length() - ".java".length()));
            }
        }
        Check.dueText("tests", firstInRows(part).toString(), there.toString());
        Check.due(".ci/run can be run", new File(".ci/run").canExecute(), true);
    }

    /** What stands under 'What to keep in mind' beyond what the other tests hold promise by promise. */
    private static void keptInMind() {
        Check.part("what to keep in mind");
        LeverFrame x = Check.laid(Check.JUNCTION);
        Check.tape(x, "tick 1;");
        Check.due("book(2)", x.book(2), -1000);
        Check.due("the tape that it leaves", x.count(8), 7);
        Check.due("set of no route", x.set(4), LeverFrame.NONE);
        Check.due("why rb is not set", x.set(1), 3);
        Check.due("routes that are not free then", x.now(2), 0);
        Check.due("train 2", Check.train(x, 2, 0), Check.THROWS);
        Check.due("mean(2)", Check.mean(x, 2), Check.THROWS);
        Check.badBook(x, "set rm; ^sat rm;", 1);
        Check.due("what the faulty book did", x.now(2), 0);
    }
}
