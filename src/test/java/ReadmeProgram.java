import java.io.IOException;
import java.nio.charset.StandardCharsets;
import java.nio.file.Files;
import java.nio.file.Path;
import java.util.regex.Matcher;
import java.util.regex.Pattern;

/**
 * Makes a program of the Java that README.md shows, and prints it: each call is made in its turn, and its answer, or
 * the exception that it throws, is held against the one that README.md writes beside it.
 */
public final class ReadmeProgram {
    private static final Pattern ANSWERED =
        Pattern.compile("(?:int (\\w+) = )?(\\w+\\.\\w+\\(.*\\)); +// (-?\\d+|true|false|[A-Z_]+)(?:: .+)?");
    private static final Pattern REFUSED = Pattern.compile("(\\w+\\.\\w+\\(.*\\)); +// throws (\\w+)(?:: .+)?");
    private static final Pattern WITHOUT_ANSWER =
        Pattern.compile("|ChoirRegister \\w+ = new ChoirRegister\\(\\);|for \\(.*\\) \\{|    .*|\\}");

    private ReadmeProgram() {
    }

    public static void main(String[] args) throws IOException {
        StringBuilder program = new StringBuilder("final class ReadmeCalls {\n");
        program.append("    public static void main(String[] args) {\n");
        int calls = 0;
        boolean isJava = false;
        for (String line : Files.readString(Path.of(args[0]), StandardCharsets.UTF_8).split("\n")) {
            if (line.startsWith("```")) {
                isJava = line.equals("```java");
            } else if (isJava) {
                program.append(statement(line));
                calls++;
            }
        }
        if (calls == 0) {
            throw new IllegalStateException("README.md shows no calls");
        }
        program.append("        if (!Checks.report()) {\n            System.exit(1);\n        }\n    }\n}\n");
        System.out.print(program);
    }

    private static String statement(String line) {
        Matcher refused = REFUSED.matcher(line);
        if (refused.matches()) {
            String call = refused.group(1);
            return "Checks.throwsJust(" + refused.group(2) + ".class, \"README: " + call + "\", () -> " + call + ");\n";
        }
        Matcher answered = ANSWERED.matcher(line);
        if (answered.matches()) {
            String name = answered.group(1);
            String call = answered.group(2);
            String answer = answered.group(3).replaceAll("^[A-Z]", "ChoirRegister.$0");
            String made = name == null ? "" : "int " + name + " = " + call + ";\n";
            return made + "Checks.same(\"README: " + call + "\", " + answer + ", " + (name == null ? call : name) + ");\n";
        }
        if (!WITHOUT_ANSWER.matcher(line).matches()) {
            throw new IllegalStateException("README.md shows a call without its answer: " + line);
        }
        return line + "\n";
    }
}
