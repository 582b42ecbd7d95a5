import java.io.IOException;
import java.lang.reflect.Method;
import java.lang.reflect.Modifier;
import java.nio.charset.StandardCharsets;
import java.nio.file.Files;
import java.nio.file.Path;
import java.util.ArrayList;
import java.util.Comparator;
import java.util.List;
import java.util.regex.Matcher;
import java.util.regex.Pattern;
import java.util.stream.Stream;

/** README.md, followed word for word: its lines are run in a copy of the checkout, and print what it says. */
public final class ReadmeTest {
    private static final Checks C = new Checks();

    public static void main(String[] args) throws IOException, InterruptedException {
        String page = Files.readString(Path.of("README.md"), StandardCharsets.UTF_8);
        List<String> lines = blocks(page, "sh");
        List<String> printed = blocks(page, "text");
        C.due("blocks of lines to run", lines.size(), 2);
        C.due("blocks of what is printed", printed.size(), 1);
        if (lines.size() == 2 && printed.size() == 1) {
            String said = run(lines.get(0));
            C.holds("the example prints what the page says, not\n" + said, said.equals(printed.get(0)));
            said = run(lines.get(1));
            C.holds("one test alone passes, not\n" + said, said.endsWith(" answers, 0 wrong\n"));
        }
        everyCallIsTold(page);
        everyTestIsTold(page);
        C.holds("the page tells of .ci/run", page.contains("\n    .ci/run\n"));
        C.holds(".ci/run can be run", Files.isExecutable(Path.of(".ci/run")));
        C.end();
    }

    private static List<String> blocks(String page, String kind) {
        List<String> found = new ArrayList<>();
        Matcher m = Pattern.compile("^```" + kind + "\n(.*?)^```$", Pattern.DOTALL | Pattern.MULTILINE).matcher(page);
        while (m.find()) {
            found.add(m.group(1));
        }
        return found;
    }

    /** What the lines print in a copy of the checkout, errors too; they must end well. */
    private static String run(String lines) throws IOException, InterruptedException {
        Path copy = Files.createTempDirectory("readme");
        try {
            copyTree(Path.of("src"), copy.resolve("src"));
            Process shell = new ProcessBuilder("sh", "-e", "-c", lines)
                .directory(copy.toFile()).redirectErrorStream(true).start();
            String said = new String(shell.getInputStream().readAllBytes(), StandardCharsets.UTF_8);
            C.due("exit code of\n" + lines, shell.waitFor(), 0);
            return said;
        } finally {
            remove(copy);
        }
    }

    private static void copyTree(Path from, Path to) throws IOException {
        try (Stream<Path> all = Files.walk(from)) {
            for (Path one : (Iterable<Path>) all::iterator) {
                Files.copy(one, to.resolve(from.relativize(one).toString()));
            }
        }
    }

    private static void remove(Path tree) throws IOException {
        try (Stream<Path> all = Files.walk(tree)) {
            for (Path one : (Iterable<Path>) all.sorted(Comparator.reverseOrder())::iterator) {
                Files.delete(one);
            }
        }
    }

    /** A row of a table begins with the call, with as many names in brackets as it takes numbers. */
    private static void everyCallIsTold(String page) {
        int calls = 0;
        for (Method m : NextNames.class.getDeclaredMethods()) {
            if (Modifier.isPublic(m.getModifiers())) {
                int n = m.getParameterCount();
                String names = n == 0 ? "" : "\\w+" + ", \\w+".repeat(n - 1);
                Pattern row = Pattern.compile("^\\| `" + m.getName() + "\\(" + names + "\\)` \\| ", Pattern.MULTILINE);
                C.holds("the page tells of " + m.getName(), row.matcher(page).results().count() == 1);
                calls++;
            }
        }
        C.due("rows of calls", Pattern.compile("^\\| `\\w+\\(", Pattern.MULTILINE).matcher(page).results().count(), calls);
        for (String constant : List.of("NONE", "BAD", "STATE", "FULL")) {
            C.holds("the page tells of " + constant, page.contains("`" + constant + "`"));
        }
    }

    private static void everyTestIsTold(String page) throws IOException {
        try (Stream<Path> all = Files.list(Path.of("src/test/java"))) {
            for (Path one : (Iterable<Path>) all::iterator) {
                String name = one.getFileName().toString().replace(".java", "");
                C.holds("the page tells of " + name, !name.endsWith("Test") || page.contains("`" + name + "`"));
            }
        }
    }
}
