import java.io.IOException;
import java.lang.reflect.Method;
import java.lang.reflect.Modifier;
import java.nio.file.DirectoryStream;
import java.nio.file.Files;
import java.nio.file.Path;
import java.util.Set;
import java.util.TreeSet;

/**
 * README.md tells of every method, every refusal and every test. Whether the answers in its examples
 * are right, .ci/run looks at with the program that ReadmeProgram writes.
 */
public final class ReadmeTest {
    private static final Path FILE = Path.of("README.md");
    private static final String[] REFUSALS = {"-1", "-2", "-3", "-4"};
    /** The answers below 0 that are no refusals; those of place are all of that kind. */
    private static final Set<String> NO_REFUSALS = Set.of("depth -1", "cell -1");

    private final Readme readme;

    private ReadmeTest() throws IOException {
        readme = new Readme(FILE);
    }

    public static void main(String[] args) throws IOException {
        ReadmeTest test = new ReadmeTest();
        test.everyLineIsCompared();
        test.objectsAreMade();
        test.everyMethodIsShown();
        test.refusalsAreShown();
        test.everyTestIsNamed();
        test.runIsNamed();
        Check.end();
    }

    private void everyLineIsCompared() {
        Check.isTrue("lines without an answer: " + readme.faults(), readme.faults().isEmpty());
        Check.isTrue("there are calls", readme.lines().stream().anyMatch(Readme.Line::isCall));
    }

    private void objectsAreMade() {
        String heading = "MemoryMap(long size)";
        Check.isTrue("a heading " + heading, readme.headings().contains(heading));
        boolean made = readme.lines().stream()
            .anyMatch(line -> line.heading().equals(heading) && line.text().contains("new MemoryMap("));
        Check.isTrue("an object is made under " + heading, made);
    }

    private void everyMethodIsShown() {
        for (Method method : MemoryMap.class.getDeclaredMethods()) {
            if (Modifier.isPublic(method.getModifiers())) {
                isShown(method);
            }
        }
    }

    private void isShown(Method method) {
        String heading = "";
        for (String one : readme.headings()) {
            // The document's face names the parameters, and the class file does not.
            if (one.replaceAll("(\\w+) \\w+([,)])", "$1$2").equals(FaceTest.text(method))) {
                heading = one;
            }
        }
        Check.isTrue("a heading for " + method, !heading.isEmpty());
        String found = heading;
        boolean called = readme.lines().stream()
            .anyMatch(line -> line.heading().equals(found) && line.isCall() && line.method().equals(method.getName()));
        Check.isTrue("a call under it", called);
    }

    /** What the table of refusals has is what the examples show. */
    private void refusalsAreShown() {
        Set<String> told = toldRefusals();
        Set<String> shown = shownRefusals();
        Check.isTrue("the table has " + told + ", the examples show " + shown, told.equals(shown));
        Check.isTrue("there are refusals", !told.isEmpty());
    }

    private Set<String> toldRefusals() {
        Set<String> told = new TreeSet<>();
        for (String[] cells : readme.rows()) {
            if (cells.length == 7) {
                String method = cells[0].trim().replace("`", "");
                for (int c = 0; c < REFUSALS.length; c++) {
                    if (!cells[c + 1].isBlank()) {
                        told.add(method + " " + REFUSALS[c]);
                    }
                }
                if (!cells[5].isBlank()) {
                    told.add(method + " throws " + cells[5].trim().replaceAll(":.*", ""));
                }
            }
        }
        return told;
    }

    private Set<String> shownRefusals() {
        Set<String> shown = new TreeSet<>();
        for (Readme.Line line : readme.lines()) {
            if (line.isCall() && line.exception() != null) {
                shown.add(line.method() + " throws " + line.exception());
            } else if (line.isCall() && line.answer().startsWith("-") && !line.method().equals("place")) {
                shown.add(line.method() + " " + line.answer());
            }
        }
        shown.removeAll(NO_REFUSALS);
        return shown;
    }

    private void everyTestIsNamed() throws IOException {
        try (DirectoryStream<Path> tests = Files.newDirectoryStream(Path.of("src/test/java"), "*Test.java")) {
            for (Path test : tests) {
                String name = test.getFileName().toString().replace(".java", "");
                Check.isTrue(name + " is in a table", isInTable(name));
            }
        }
    }

    private boolean isInTable(String name) {
        return readme.rows().stream().anyMatch(cells -> cells[0].contains("`" + name + "`"));
    }

    private void runIsNamed() throws IOException {
        Check.isTrue("it says how the tests are run", Files.readAllLines(FILE).contains("    .ci/run"));
    }
}
