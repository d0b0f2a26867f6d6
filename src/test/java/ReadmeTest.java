import java.io.IOException;
import java.lang.reflect.Method;
import java.lang.reflect.Modifier;
import java.nio.charset.StandardCharsets;
import java.nio.file.Files;
import java.nio.file.Path;
import java.util.ArrayList;
import java.util.List;
import java.util.Set;
import java.util.TreeSet;
import java.util.concurrent.TimeUnit;
import java.util.regex.Matcher;
import java.util.regex.Pattern;
import java.util.stream.Stream;

/** Is what README.md says so: does its program print what it tells, do its commands run, are its lists whole? */
public final class ReadmeTest {
    private static final Path ROOT = Path.of("").toAbsolutePath();
    private static final int ENOUGH_MINUTES = 10;

    private static int wrong = 0;

    private static void due(boolean holds, String told) {
        if (!holds) {
            wrong++;
            System.out.println("README: " + told);
        }
    }

    public static void main(String[] arguments) throws IOException, InterruptedException {
        String page = Files.readString(Path.of("README.md"));
        Path work = Files.createTempDirectory("readme");
        try {
            commands(page, work);
        } finally {
            remove(work);
        }
        calls(page);
        tests(page);
        System.out.println(wrong == 0 ? "the page is as it says" : wrong + " things are not as the page says");
        if (wrong != 0) {
            System.exit(1);
        }
    }

    /** All that stands between ```kind and ```. */
    private static List<String> blocks(String page, String kind) {
        List<String> all = new ArrayList<>();
        Matcher m = Pattern.compile("(?s)```" + kind + "\n(.*?)```").matcher(page);
        while (m.find()) {
            all.add(m.group(1));
        }
        return all;
    }

    /**
     * Runs what the page tells to run as it stands there, but that what it compiles to goes to a directory of this test
     * alone, that Breakfast.java is there instead of here (a checkout is to stay as it is), and that .ci/run, which runs
     * this test, is not run again.
     */
    private static void commands(String page, Path work) throws IOException, InterruptedException {
        List<String> programs = blocks(page, "java");
        List<String> prints = blocks(page, "text");
        due(programs.size() == 1 && prints.size() == 1, "one program and what it prints");
        if (programs.size() != 1 || prints.size() != 1) {
            return;
        }
        Files.writeString(work.resolve("Breakfast.java"), programs.get(0));
        int ran = 0;
        boolean isAllTold = false;
        boolean isPrinted = false;
        for (String block : blocks(page, "sh")) {
            if (block.trim().equals(".ci/run")) {
                isAllTold = true;
                due(Files.isExecutable(Path.of(".ci/run")), ".ci/run is there and can be run");
                continue;
            }
            due(block.contains("/tmp/"), "what is compiled goes elsewhere: " + block);
            String told = block.replace("/tmp/", work + "/").replace(" Breakfast.java", " " + work + "/Breakfast.java");
            // What a machine says of itself on the other stream is no answer of the program.
            Path out = work.resolve("out" + ran);
            Path notes = work.resolve("notes" + ran);
            Process shell = new ProcessBuilder("sh", "-e", "-c", told).directory(ROOT.toFile())
                .redirectOutput(out.toFile()).redirectError(notes.toFile()).start();
            boolean ended = shell.waitFor(ENOUGH_MINUTES, TimeUnit.MINUTES);
            if (!ended) {
                shell.destroyForcibly();
            }
            String printed = Files.readString(out, StandardCharsets.UTF_8);
            String noted = Files.readString(notes, StandardCharsets.UTF_8);
            due(ended && shell.exitValue() == 0, "runs without fault: " + block + printed + noted);
            if (block.contains("Breakfast")) {
                isPrinted = true;
                due(printed.equals(prints.get(0)), "Breakfast prints\n" + printed + "and not\n" + prints.get(0));
            }
            ran++;
        }
        due(isAllTold, "how to run all tests");
        due(isPrinted, "how to run its program");
        due(ran >= 4, "how to use the class, one test, one of the shared and drawn runs: " + ran + " told");
    }

    /** Its table tells each call of the face once, in the document's order of promises. */
    private static void calls(String page) {
        List<String> table = new ArrayList<>();
        int promise = 2;
        Matcher line = Pattern.compile("(?m)^\\| (\\d+)(?:(?:,| \\.\\.) (\\d+))? \\| ([^|]*) \\|").matcher(page);
        while (line.find()) {
            int many = 0;
            Matcher call = Pattern.compile("`(\\w+)`").matcher(line.group(3));
            while (call.find()) {
                table.add(call.group(1));
                many++;
            }
            int first = Integer.parseInt(line.group(1));
            int last = line.group(2) == null ? first : Integer.parseInt(line.group(2));
            due(first == promise && last - first + 1 == many, "promises of the line " + line.group());
            promise = last + 1;
        }
        due(promise == 46, "the table ends at promise " + (promise - 1));
        Set<String> face = new TreeSet<>();
        for (Method m : StillGood.class.getDeclaredMethods()) {
            if (Modifier.isPublic(m.getModifiers())) {
                face.add(m.getName());
            }
        }
        due(table.size() == face.size() && face.equals(new TreeSet<>(table)), "its calls are " + table);
        due(table.equals(ofDocument()), "its calls stand in another order than the promises: " + table);
    }

    private static List<String> ofDocument() {
        List<String> told = new ArrayList<>();
        try {
            String document = Files.readString(Path.of("../shared/DOC.md"));
            Matcher m = Pattern.compile("(?m)^`(?:int|long) (\\w+)\\(").matcher(document);
            while (m.find()) {
                told.add(m.group(1));
            }
        } catch (IOException e) {
            due(false, "the document can't be read: " + e);
        }
        return told;
    }

    /** It tells each test there is, and none else. */
    private static void tests(String page) throws IOException {
        Set<String> told = new TreeSet<>();
        Matcher m = Pattern.compile("(?m)^- `(src/test/java/\\w+\\.java)`").matcher(page);
        while (m.find()) {
            told.add(m.group(1));
        }
        Set<String> there = new TreeSet<>();
        try (Stream<Path> all = Files.list(Path.of("src/test/java"))) {
            all.map(Path::toString).filter(path -> path.endsWith("Test.java")).forEach(there::add);
        }
        due(told.equals(there), "it tells the tests " + told + ", there are " + there);
        Matcher path = Pattern.compile("`?((?:src|\\.\\./shared)/[\\w/.]*\\w)").matcher(page);
        while (path.find()) {
            due(Files.exists(Path.of(path.group(1))), "there is no " + path.group(1));
        }
    }

    private static void remove(Path directory) throws IOException {
        try (Stream<Path> all = Files.walk(directory)) {
            all.sorted((one, other) -> other.compareTo(one)).forEach(path -> path.toFile().delete());
        }
    }
}
