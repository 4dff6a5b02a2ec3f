import java.io.IOException;
import java.nio.file.Files;
import java.nio.file.Path;

/**
 * Writes the examples of README.md as a program that compares the answers, and ends as a test does.
 * Arguments: README.md, and the folder for ReadmeExamples.java.
 */
public final class ReadmeProgram {
    public static void main(String[] args) throws IOException {
        Readme readme = new Readme(Path.of(args[0]));
        StringBuilder program = new StringBuilder("public final class ReadmeExamples {\n");
        writeMain(readme.examples(), program);
        for (int example = 1; example <= readme.examples(); example++) {
            writeExample(readme, example, program);
        }
        program.append("}\n");
        Path folder = Files.createDirectories(Path.of(args[1]));
        Files.writeString(folder.resolve("ReadmeExamples.java"), program);
    }

    private static void writeMain(int examples, StringBuilder program) {
        program.append("    public static void main(String[] args) {\n");
        for (int example = 1; example <= examples; example++) {
            program.append("        example").append(example).append("();\n");
        }
        program.append("        Check.end();\n    }\n");
    }

    private static void writeExample(Readme readme, int example, StringBuilder program) {
        program.append("\n    private static void example").append(example).append("() {\n");
        for (Readme.Line line : readme.lines()) {
            if (line.example() == example) {
                program.append("        ").append(line.isCall() ? comparison(line) : line.text()).append('\n');
            }
        }
        program.append("    }\n");
    }

    private static String comparison(Readme.Line line) {
        String what = "\"README.md:" + line.number() + ": " + line.expression() + "\", ";
        if (line.exception() != null) {
            return "Check.throwsExactly(" + what + line.exception() + ".class, () -> " + line.expression() + ");";
        }
        return "Check.same(" + what + line.expression() + ", " + line.answer() + ");";
    }
}
