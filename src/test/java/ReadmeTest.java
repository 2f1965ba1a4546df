import java.io.IOException;
import java.net.URL;
import java.net.URLClassLoader;
import java.nio.file.Files;
import java.nio.file.Path;
import java.util.ArrayList;
import java.util.List;
import java.util.Map;
import java.util.Set;
import java.util.TreeMap;
import java.util.TreeSet;
import java.util.regex.Matcher;
import java.util.regex.Pattern;
import java.util.stream.Collectors;

/**
 * Runs README.md's examples as they stand there, and looks whether each call answers what stands
 * behind it. A program is made of them, so that what does not compile fails, too.
 */
public final class ReadmeTest {
    private static final Path README = Path.of("README.md");
    private static final String PROGRAM = "ReadmeExamples";
    private static final String ANY_METHOD = "\\.(" + String.join("|", FaceTest.METHODS.keySet()) + ")\\(";
    private static final Pattern OPENING = Pattern.compile(ANY_METHOD);
    private static final Pattern CALL = Pattern.compile("\\w+" + ANY_METHOD + "[^()]*\\)");
    private static final Pattern ANSWER = Pattern.compile("; +// (-?\\d+|"
            + String.join("|", FaceTest.CONSTANTS.keySet()) + ")(:.*)?");

    private final StringBuilder program = new StringBuilder();
    private final Map<Integer, Integer> due = new TreeMap<>();
    private final Set<String> shownMethods = new TreeSet<>();
    private final Set<String> shownConstants = new TreeSet<>();

    public static void main(String[] args) throws Exception {
        List<String> readme = Files.readAllLines(README);
        ReadmeTest test = new ReadmeTest();
        test.readExamples(readme);
        Expect.holds("each method has an example: " + test.shownMethods,
                test.shownMethods.equals(FaceTest.METHODS.keySet()));
        Expect.holds("each constant has an example: " + test.shownConstants,
                test.shownConstants.equals(FaceTest.CONSTANTS.keySet()));
        int[] answers = test.run();
        for (Map.Entry<Integer, Integer> d : test.due.entrySet()) {
            int line = d.getKey();
            int got = line < answers.length ? answers[line] : 0;
            Expect.due("README.md, line " + (line + 1) + ": " + readme.get(line), got, d.getValue());
        }
        Expect.finish();
    }

    /** Makes the program; each example is a block of its own in it. */
    private void readExamples(List<String> readme) {
        program.append("public final class ").append(PROGRAM).append(" {\n")
                .append("static int last;\n")
                .append("static int keep(int answer) { last = answer; return answer; }\n")
                .append("public static int[] run() {\n")
                .append("int[] answers = new int[").append(readme.size()).append("];\n");
        boolean inside = false;
        for (int i = 0; i < readme.size(); i++) {
            String line = readme.get(i);
            if (line.startsWith("```")) {
                inside = !inside;
                Expect.holds("an example is of Java: " + line, line.equals(inside ? "```java" : "```"));
                program.append(inside ? "{\n" : "}\n");
            } else if (inside) {
                addLine(i, line);
            }
        }
        Expect.holds("the last example ends", !inside);
        program.append("return answers;\n}\n}\n");
    }

    private void addLine(int index, String line) {
        program.append(CALL.matcher(line).replaceAll("keep($0)")).append('\n');
        if (!OPENING.matcher(line).find()) {
            return;
        }
        program.append("answers[").append(index).append("] = last;\n");
        Expect.due("calls that can be read in: " + line, CALL.matcher(line).results().count(), 1);
        CALL.matcher(line).results().forEach(call -> shownMethods.add(call.group(1)));
        Matcher answer = ANSWER.matcher(line);
        boolean answered = answer.find();
        Expect.holds("the answer stands behind: " + line, answered);
        if (answered) {
            due.put(index, numberOf(answer.group(1)));
        }
    }

    private int numberOf(String answer) {
        if (!FaceTest.CONSTANTS.containsKey(answer)) {
            return Integer.parseInt(answer);
        }
        shownConstants.add(answer);
        return FaceTest.CONSTANTS.get(answer);
    }

    /** The answers by the indices of their lines; none if the program does not compile. */
    private int[] run() throws Exception {
        Path folder = Files.createTempDirectory("readme");
        try {
            Path file = folder.resolve(PROGRAM + ".java");
            Files.writeString(file, program);
            int failed = new ProcessBuilder("javac", "--release", "17", "-encoding", "UTF-8",
                    "-cp", System.getProperty("java.class.path"), "-d", folder.toString(),
                    file.toString()).inheritIO().start().waitFor();
            Expect.due("compiling the examples", failed, 0);
            if (failed != 0) {
                return new int[0];
            }
            try (URLClassLoader loader = new URLClassLoader(new URL[] {folder.toUri().toURL()})) {
                return (int[]) loader.loadClass(PROGRAM).getMethod("run").invoke(null);
            }
        } finally {
            remove(folder);
        }
    }

    private static void remove(Path folder) throws IOException {
        List<Path> files = new ArrayList<>();
        try (var inside = Files.list(folder)) {
            files.addAll(inside.collect(Collectors.toList()));
        }
        for (Path file : files) {
            Files.delete(file);
        }
        Files.delete(folder);
    }
}
