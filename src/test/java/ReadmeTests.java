import java.io.IOException;
import java.net.URL;
import java.net.URLClassLoader;
import java.nio.file.Files;
import java.nio.file.Path;
import java.util.ArrayList;
import java.util.List;
import java.util.Map;
import java.util.Set;
import java.util.TreeMap;
import java.util.TreeSet;
import java.util.regex.Matcher;
import java.util.regex.Pattern;
import java.util.stream.Stream;
import javax.tools.ToolProvider;

// README.md: each call that it shows gives the answer that stands behind it, each promise of ../shared/DOC.md stands
// there in the document's words with an example, and each file that is named is there. Run from the project's root.
public final class ReadmeTests {
    private static final Path README = Path.of("README.md");
    private static final Path DOCUMENT = Path.of("../shared/DOC.md");
    private static final Path TESTS = Path.of("src/test/java");
    private static final int PROMISES = 23;

    // A call with its answer, a number or a constant, and perhaps a remark behind a colon.
    private static final Pattern CALL =
            Pattern.compile("(wires\\.(\\w+)\\(.*\\));\\s+// (-?\\d+|[A-Z_]+)(: \\S.*)?");
    private static final Pattern MADE = Pattern.compile("PulledWires wires = new PulledWires\\(\\);");
    // Loops are carried out as they stand there.
    private static final Pattern LOOP = Pattern.compile("for \\(.*\\) \\{| {4}wires\\.\\w+\\((\\w+|'.')\\);|\\}");
    private static final Pattern SIGNATURE = Pattern.compile("`([\\w ]*\\([^`]*\\))`");
    private static final Pattern FILE_NAME =
            Pattern.compile("(?<![\\w./])((?:\\.\\./shared/|src/|\\.ci/)[\\w./]*\\w|[A-Z]+\\.md)");

    private static int wrong = 0;
    private static int asked = 0;

    private static void holds(String text, boolean isSo) {
        asked++;
        if (!isSo) {
            wrong++;
            System.out.println("ReadmeTests: " + text);
        }
    }

    /** Called by the examples, which another class loader loads. */
    public static void due(int line, String call, int got, int want) {
        holds("README.md line " + line + ": " + call + " answered " + got + ", shown is " + want, got == want);
    }

    public static void main(String[] args) throws Exception {
        List<String> lines = Files.readAllLines(README);
        Map<String, String> sections = sectionsOf(lines);
        carryOutExamples(lines);
        eachCallStandsInTheDocumentsWords(sections);
        eachConstantStandsThere(lines);
        eachFileIsThere(lines);
        eachTestIsNamed(lines);
        System.out.println("ReadmeTests: " + asked + " answers and words, " + wrong + " not as due");
        if (wrong != 0) System.exit(1);
    }

    // ---- the examples

    private static void carryOutExamples(List<String> lines) throws Exception {
        StringBuilder code = new StringBuilder("public final class ReadmeExamples {\n");
        int examples = 0;
        boolean inside = false;
        for (int i = 0; i < lines.size(); i++) {
            String line = lines.get(i);
            if (line.equals("```java")) {
                inside = true;
                examples++;
                code.append("    public static void example").append(examples).append("() {\n");
                holds("README.md line " + (i + 2) + ": no new object", MADE.matcher(lines.get(i + 1)).matches());
            } else if (inside && line.equals("```")) {
                inside = false;
                code.append("    }\n");
            } else if (inside) {
                code.append("        ").append(asCode(i + 1, line)).append('\n');
            } else {
                holds("README.md line " + (i + 1) + " is in no example: " + line, !line.startsWith("wires."));
            }
        }
        code.append("}\n");
        holds("an example does not end", !inside);
        holds("there are " + examples + " examples", examples > PROMISES);
        Class<?> compiled = compile(code.toString());
        for (int example = 1; compiled != null && example <= examples; example++) {
            compiled.getMethod("example" + example).invoke(null);
        }
    }

    private static String asCode(int number, String line) {
        Matcher call = CALL.matcher(line);
        if (!call.matches()) {
            holds("README.md line " + number + " has no answer: " + line,
                    MADE.matcher(line).matches() || LOOP.matcher(line).matches());
            return line;
        }
        String want = call.group(3);
        boolean isNumber = Character.isDigit(want.charAt(want.length() - 1));
        String shown = call.group(1).replace("\\", "\\\\").replace("\"", "\\\"");
        return "ReadmeTests.due(" + number + ", \"" + shown + "\", " + call.group(1) + ", "
                + (isNumber ? want : "PulledWires." + want) + ");";
    }

    private static Class<?> compile(String code) throws IOException, ClassNotFoundException {
        Path directory = Files.createTempDirectory("readme");
        Path file = directory.resolve("ReadmeExamples.java");
        Path result = directory.resolve("ReadmeExamples.class");
        try (URLClassLoader loader = new URLClassLoader(new URL[] {directory.toUri().toURL()},
                ReadmeTests.class.getClassLoader())) {
            Files.writeString(file, code);
            int failed = ToolProvider.getSystemJavaCompiler().run(null, null, null, "-cp",
                    System.getProperty("java.class.path"), "-d", directory.toString(), file.toString());
            holds("the examples do not compile", failed == 0);
            return failed == 0 ? loader.loadClass("ReadmeExamples") : null;
        } finally {
            Files.deleteIfExists(result);
            Files.deleteIfExists(file);
            Files.deleteIfExists(directory);
        }
    }

    // ---- the words of the document

    /** What stands below each heading that is a call's first line. */
    private static Map<String, String> sectionsOf(List<String> lines) {
        Map<String, String> sections = new TreeMap<>();
        String heading = "";
        for (String line : lines) {
            if (line.startsWith("#")) {
                heading = line.replaceAll("^#+ ", "");
            }
            sections.merge(heading, line, (above, below) -> above + "\n" + below);
        }
        return sections;
    }

    private static void eachCallStandsInTheDocumentsWords(Map<String, String> sections) throws IOException {
        int promises = 0;
        for (String promise : Files.readString(DOCUMENT).split("(?m)^## ")) {
            Matcher signature = SIGNATURE.matcher(promise);
            if (promise.startsWith("Promise ") && signature.find()) {
                promises++;
                String section = sections.getOrDefault("`" + signature.group(1) + "`", "");
                String number = promise.substring(0, promise.indexOf(':'));
                holds(number + " is not named below " + signature.group(1), section.contains("\n" + number + "."));
                String words = oneLine(section.replaceAll("(?s)```.*", ""));
                for (String part : promise.substring(signature.end()).split("\n\n|\n- |: - |^: ")) {
                    holds(number + " is not told in these words: " + part, words.contains(oneLine(part)));
                }
                callIsShown(signature.group(1), section);
            }
        }
        holds("there are " + promises + " promises", promises == PROMISES);
    }

    private static String oneLine(String text) {
        return text.replaceAll("\\s+", " ").strip();
    }

    /** With an answer, and with each error that it can have. */
    private static void callIsShown(String signature, String section) {
        String name = signature.replaceAll("\\(.*|^int ", "");
        List<String> answers = new ArrayList<>();
        Matcher call = CALL.matcher("");
        for (String line : section.split("\n")) {
            if (call.reset(line).matches() && call.group(2).equals(name)) {
                answers.add(call.group(3));
            }
        }
        boolean isConstructor = name.equals("PulledWires");
        holds(name + " is not shown", isConstructor || answers.stream().anyMatch(a -> Character.isDigit(a.charAt(0))));
        Matcher returns = Pattern.compile("(?s)\nReturns (.*?)\n\n").matcher(section);
        holds(name + " tells no answer", isConstructor || returns.find());
        for (String constant : List.of("UNKNOWN", "BAD_VALUE", "FULL", "NOT_POSSIBLE", "NONE")) {
            boolean isPromised = !isConstructor && returns.group(1).contains(constant);
            holds(name + " is not shown with " + constant, !isPromised || answers.contains(constant));
        }
    }

    private static void eachConstantStandsThere(List<String> lines) throws IOException {
        Matcher constant = Pattern.compile("`([A-Z_]+) = (-\\d)`: (.*)").matcher(Files.readString(DOCUMENT));
        Set<String> found = new TreeSet<>();
        while (constant.find()) {
            found.add(constant.group(1));
            String row = "| `" + constant.group(1) + "` | " + constant.group(2) + " | " + constant.group(3) + " |";
            holds("no row: " + row, lines.contains(row));
        }
        holds("the constants are " + found, found.size() == 5);
    }

    // ---- files

    private static void eachFileIsThere(List<String> lines) {
        Set<String> names = new TreeSet<>();
        Matcher name = FILE_NAME.matcher(String.join("\n", lines));
        while (name.find()) {
            names.add(name.group(1));
        }
        holds("the files are " + names, names.contains(".ci/run") && names.contains("src/main/java/PulledWires.java"));
        for (String each : names) {
            holds("no file " + each, Files.exists(Path.of(each)));
        }
    }

    private static void eachTestIsNamed(List<String> lines) throws IOException {
        try (Stream<Path> tests = Files.list(TESTS)) {
            for (Path test : tests.toList()) {
                String name = test.getFileName().toString().replace(".java", "");
                holds(name + " is not named", lines.stream().anyMatch(line -> line.startsWith("- `" + name + "`: ")));
            }
        }
    }
}
