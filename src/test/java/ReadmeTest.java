import java.io.IOException;
import java.lang.reflect.Field;
import java.lang.reflect.Method;
import java.lang.reflect.Modifier;
import java.nio.file.Files;
import java.nio.file.Path;
import java.util.ArrayList;
import java.util.Comparator;
import java.util.List;
import java.util.stream.Stream;

/** What README.md shows is tried as it stands there; .ci/run starts it in the project's folder. */
public final class ReadmeTest {
    private static final Path CLASS = Path.of("src/main/java/SpoonPassage.java"), USE = Path.of("src/test/java/Use.java");

    private final Due due = new Due("ReadmeTest");
    private final List<String> lines;

    private ReadmeTest(List<String> lines) {
        this.lines = lines;
    }

    public static void main(String[] args) throws Exception {
        new ReadmeTest(Files.readAllLines(Path.of("README.md"))).go();
    }

    private void go() throws Exception {
        List<String> commands = blocks("sh");
        due.is("programs", blocks("java").size(), 1);
        due.is("blocks of commands", commands.size(), 2);
        due.is("blocks of what is printed", blocks("text").size(), 1);
        if (due.wrong() == 0) {
            due.holds("the program shown is Use", blocks("java").get(0).equals(Files.readString(USE)));
            String printed = printedBy(commands.get(0), blocks("java").get(0));
            due.holds("it prints what is shown, not:\n" + printed, printed.equals(blocks("text").get(0)));
            tests(commands.get(1));
        }
        namesAll();
        due.end();
    }

    /** The text of each block that begins with three ` and its sort. */
    private List<String> blocks(String sort) {
        List<String> found = new ArrayList<>();
        StringBuilder block = null;
        for (String line : lines) {
            if (block == null && line.equals("```" + sort)) {
                block = new StringBuilder();
            } else if (block != null && line.equals("```")) {
                found.add(block.toString());
                block = null;
            } else if (block != null) {
                block.append(line).append('\n');
            }
        }
        return found;
    }

    /** Runs the commands in a folder that has the class and the program alone, so that the project's own stays clean. */
    private String printedBy(String commands, String program) throws Exception {
        Path folder = Files.createTempDirectory("readme");
        try {
            Files.createDirectories(folder.resolve(CLASS).getParent());
            Files.createDirectories(folder.resolve(USE).getParent());
            Files.copy(CLASS, folder.resolve(CLASS));
            Files.writeString(folder.resolve(USE), program);
            Process run = new ProcessBuilder("sh", "-e", "-c", commands).directory(folder.toFile()).redirectErrorStream(true).start();
            run.getOutputStream().close();
            String printed = new String(run.getInputStream().readAllBytes());
            due.is("the commands end with", run.waitFor(), 0);
            return printed;
        } finally {
            remove(folder);
        }
    }

    private static void remove(Path folder) throws IOException {
        List<Path> all;
        try (Stream<Path> walk = Files.walk(folder)) {
            all = walk.sorted(Comparator.reverseOrder()).toList();
        }
        for (Path path : all) {
            Files.delete(path);
        }
    }

    /** Not run here, since it is what runs this. */
    private void tests(String command) {
        due.holds("the tests are run by .ci/run", command.equals(".ci/run\n"));
        due.holds(".ci/run can be run", Files.isExecutable(Path.of(".ci/run")));
        for (String part : String.join(" ", lines).split("[^A-Za-z]+")) {
            if (part.endsWith("Test") && part.length() > 4) {
                due.holds(part + " is there", Files.exists(Path.of("src/test/java", part + ".java")));
            }
        }
    }

    private void namesAll() {
        for (Method m : SpoonPassage.class.getDeclaredMethods()) {
            if (Modifier.isPublic(m.getModifiers())) {
                due.is("rows that name " + m.getName(), rowsWith(m.getName()), 1);
            }
        }
        for (Field f : SpoonPassage.class.getFields()) {
            due.holds(f.getName() + " is told", String.join("\n", lines).contains("`" + f.getName() + "`"));
        }
    }

    private long rowsWith(String name) {
        return lines.stream().filter(line -> line.startsWith("|") && line.contains("`" + name + "`")).count();
    }
}
