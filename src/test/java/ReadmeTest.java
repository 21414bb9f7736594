import java.io.IOException;
import java.lang.reflect.Method;
import java.lang.reflect.Modifier;
import java.nio.file.Files;
import java.nio.file.Path;
import java.util.ArrayList;
import java.util.List;
import java.util.stream.Stream;

/** README.md says how the class is used: its example is run here, its calls and tests are those that there are. */
public final class ReadmeTest {
    private static final Path PAGE = Path.of("README.md");
    private static final Path TESTS = Path.of("src/test/java");

    private static final Due due = new Due("ReadmeTest");

    public static void main(String[] args) throws IOException {
        List<String> page = Files.readAllLines(PAGE);
        exampleAnswersAsTold();
        exampleIsThePages(page);
        callsAreThePages(page);
        testsAreThePages(page);
        due.end();
    }

    private static void exampleAnswersAsTold() {
        // the page's example
        SpreadGroups x = new SpreadGroups();
        for (char c : "volume 2 4 4 0 0 4; dir 0 1; file 1 0 9;".toCharArray()) {
            x.feed(c);
        }
        int inodes = x.text();           // 3: the root, a directory, a file
        int directory = x.find(0, 1);    // 4: the first inode of the other group
        int file = x.find(directory, 0); // 5: near its directory
        int size = x.grow(file, 3);      // 12, or FULL, and then nothing has changed
        int first = x.block(file, 0);    // 5: behind the block with the directory's tail
        int kept = x.keep(0);            // 0: there was no such image yet
        int gone = x.remove(file);       // 12: the size that it had
        int there = x.back(0);           // 3: the file is there again
        // the example's end
        due.are("the example", new int[] {inodes, directory, file, size, first, kept, gone, there},
            3, 4, 5, 12, 5, 0, 12, 3);
    }

    private static void exampleIsThePages(List<String> page) throws IOException {
        List<String> source = Files.readAllLines(TESTS.resolve("ReadmeTest.java"));
        List<String> here = between(source, "        // the page's example", "        // the example's end");
        List<String> there = between(page, "```java", "```");
        due.is("lines of the example", there.size(), here.size());
        for (int n = 0; n < Math.min(here.size(), there.size()); n++) {
            due.is("example: " + there.get(n), there.get(n).strip().equals(here.get(n).strip()) ? 1 : 0, 1);
        }
    }

    private static List<String> between(List<String> lines, String first, String last) {
        int from = lines.indexOf(first) + 1;
        List<String> behind = lines.subList(from, lines.size());
        int to = behind.indexOf(last);
        due.is("there is " + first, from > 0 && to > 0 ? 1 : 0, 1);
        return to < 0 ? behind : behind.subList(0, to);
    }

    private static void callsAreThePages(List<String> page) {
        List<String> told = new ArrayList<>();
        for (String line : page) {
            if (line.matches("\\| `\\w+\\(.*\\)` \\|.*")) {
                String parameters = line.substring(line.indexOf('(') + 1, line.indexOf(')'));
                int n = parameters.isEmpty() ? 0 : parameters.split(",").length;
                told.add(line.substring(line.indexOf('`') + 1, line.indexOf('(')) + " " + n);
            }
        }
        int calls = 0;
        for (Method method : SpreadGroups.class.getDeclaredMethods()) {
            if (Modifier.isPublic(method.getModifiers())) {
                String call = method.getName() + " " + method.getParameterCount();
                due.is("the page tells of " + call, told.contains(call) ? 1 : 0, 1);
                calls++;
            }
        }
        due.is("calls that the page tells of", told.size(), calls);
    }

    private static void testsAreThePages(List<String> page) throws IOException {
        int tests = 0;
        try (Stream<Path> files = Files.list(TESTS)) {
            for (Path file : files.filter(f -> f.toString().endsWith("Test.java")).toList()) {
                String name = file.getFileName().toString().replace(".java", "");
                due.is("the page tells of " + name, isTold(page, name) ? 1 : 0, 1);
                tests++;
            }
        }
        long told = page.stream().filter(line -> line.matches("\\| \\w+Test \\|.*")).count();
        due.is("tests that the page tells of", (int) told, tests);
    }

    private static boolean isTold(List<String> page, String name) {
        return page.stream().anyMatch(line -> line.startsWith("| " + name + " |"));
    }
}
