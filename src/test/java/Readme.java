import java.io.IOException;
import java.nio.file.Files;
import java.nio.file.Path;
import java.util.ArrayList;
import java.util.List;
import java.util.regex.Matcher;
import java.util.regex.Pattern;

/** README.md: its headings, the lines of its examples, and the rows of its tables. */
final class Readme {
    private static final Pattern CALL =
        Pattern.compile("\\s*(\\w+\\.(\\w+)\\(.*\\));\\s+// (?:throws (\\w+)|(-?\\w+))(?::.*)?");
    private static final Pattern MADE = Pattern.compile("MemoryMap \\w+ = new MemoryMap\\(-?\\w+\\);");
    private static final Pattern FRAME = Pattern.compile("for \\(.*\\) \\{|\\}");

    /** A line of an example: a call with its answer or its exception, or else a line without a call. */
    record Line(int number, String heading, int example, String text, Matcher call) {
        boolean isCall() {
            return call.matches();
        }

        String expression() {
            return call.group(1);
        }

        String method() {
            return call.group(2);
        }

        String exception() {
            return call.group(3);
        }

        String answer() {
            return call.group(4);
        }
    }

    private final List<String> headings = new ArrayList<>();
    private final List<Line> lines = new ArrayList<>();
    private final List<String[]> rows = new ArrayList<>();
    private final List<String> faults = new ArrayList<>();
    private int examples = 0;

    Readme(Path file) throws IOException {
        boolean inExample = false;
        String heading = "";
        int number = 0;
        for (String text : Files.readAllLines(file)) {
            number++;
            if (text.startsWith("```")) {
                inExample = text.equals("```java");
                examples += inExample ? 1 : 0;
            } else if (inExample) {
                addLine(number, heading, text);
            } else if (text.startsWith("#")) {
                heading = text.replaceAll("^#+ ", "").replace("`", "");
                headings.add(heading);
            } else if (text.startsWith("| `")) {
                rows.add(text.substring(1).split("\\|", -1));
            }
        }
    }

    private void addLine(int number, String heading, String text) {
        if (text.isEmpty()) {
            return;
        }
        Line line = new Line(number, heading, examples, text, CALL.matcher(text));
        if (!line.isCall() && !MADE.matcher(text).matches() && !FRAME.matcher(text).matches()) {
            faults.add("README.md:" + number + " is no call with an answer: " + text);
        }
        lines.add(line);
    }

    List<String> headings() {
        return headings;
    }

    List<Line> lines() {
        return lines;
    }

    /** The cells of the rows of all tables that begin with a name in backquotes. */
    List<String[]> rows() {
        return rows;
    }

    /** Lines in examples that would not be compared with anything. */
    List<String> faults() {
        return faults;
    }

    int examples() {
        return examples;
    }
}
