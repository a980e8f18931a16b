import java.io.IOException;
import java.nio.file.Files;
import java.nio.file.Path;
import java.util.ArrayList;
import java.util.List;
import java.util.Set;
import java.util.TreeSet;
import java.util.regex.Matcher;
import java.util.regex.Pattern;

/**
 * Writes the Java code that README.md shows as a program that checks each call against the answer behind it.
 * Arguments: README.md, and the file to write. Ends with exit code 1 if a call has no answer, or a method is not shown.
 */
public final class ReadmeCalls {
    private static final Set<String> METHODS = Set.of("point", "close", "clear", "winding", "row", "count");
    private static final Pattern CALL = Pattern.compile("\\b(\\w+)\\.(\\w+)\\(");
    private static final Pattern ANSWERED =
            Pattern.compile("\\s*(\\w+\\.(\\w+)\\([^()]*\\));\\s*// (-?\\w+)(?:: (REFUSED|NONE|FULL)?.*)?");

    private final List<String> program = new ArrayList<>();
    private final Set<String> shown = new TreeSet<>();
    private boolean wrong = false;

    public static void main(String[] args) throws IOException {
        Path file = Path.of(args[1]);
        ReadmeCalls calls = new ReadmeCalls();
        calls.read(Files.readAllLines(Path.of(args[0])), file.getFileName().toString().replace(".java", ""));
        if (calls.wrong) {
            System.exit(1);
        }
        Files.write(file, calls.program);
    }

    private void read(List<String> lines, String name) {
        program.add("public final class " + name + " {");
        program.add("public static void main(String[] args) {");
        program.add("Check check = new Check();");
        boolean inCode = false;
        for (int k = 0; k < lines.size(); k++) {
            String line = lines.get(k);
            if (line.startsWith("```")) {
                program.add(inCode ? "}" : "{");
                inCode = !inCode;
            } else if (inCode) {
                add("README.md line " + (k + 1), line);
            }
        }
        program.add("check.end();");
        program.add("}");
        program.add("}");
        refuse("code without an end", inCode);
        for (String method : METHODS) {
            refuse(method + " is not shown with an answer", !shown.contains(method));
        }
    }

    private void add(String where, String line) {
        Matcher answered = ANSWERED.matcher(line);
        if (!answered.matches()) {
            refuse(where + " has a call without an answer: " + line, CALL.matcher(line).find());
            program.add(line);
            return;
        }
        String call = answered.group(1);
        String answer = answered.group(3);
        shown.add(answered.group(2));
        addCheck(where + ": " + call, call, answer);
        if (answered.group(4) != null) {
            addCheck(where + ": " + answered.group(4), "CurveScan." + answered.group(4), answer);
        }
    }

    private void addCheck(String told, String asked, String answer) {
        program.add("check.due(\"" + told + "\", " + asked + ", " + answer + ");");
    }

    private void refuse(String told, boolean isSo) {
        if (isSo) {
            System.out.println(told);
            wrong = true;
        }
    }
}
