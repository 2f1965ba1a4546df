import java.io.IOException;
import java.nio.file.Files;
import java.nio.file.Path;
import java.util.List;
import java.util.regex.Matcher;
import java.util.regex.Pattern;

/** What ../shared/LANGUAGE.md rules out, as far as the text of the program shows it. */
public final class LanguageTest {
    private static final Path PROGRAM = Path.of("src/main/java/FreightSplits.java");
    private static final int MOST_LINES = 60;
    private static final List<String> RULED_OUT = List.of(
            "\\bthrow\\b", "\\bthrows\\b", "\\btry\\b", "\\bcatch\\b", "\\bfinally\\b",
            "\\bsynchronized\\b", "\\bassert\\b", "\\bimport\\b", "\\bpackage\\b", "->", "::",
            "\\bstatic\\s*\\{", "\\bdouble\\b", "\\bfloat\\b", "Exact\\b", "\\bSystem\\.(?!arraycopy)",
            "\\bThread\\b", "\\bRandom\\b", "\\bObject\\b", "\\btoString\\b", "\\bhashCode\\b",
            "\\.class\\b", "\\bvolatile\\b", "\\bnative\\b", "@");

    public static void main(String[] args) throws IOException {
        String whole = Files.readString(PROGRAM);
        Expect.holds("signs of 1 to 127 alone", whole.chars().allMatch(c -> c >= 1 && c <= 127));
        String code = whole.replaceAll("(?s)/\\*.*?\\*/", "").replaceAll("//[^\n]*", "");
        for (String ruledOut : RULED_OUT) {
            Matcher found = Pattern.compile(ruledOut).matcher(code);
            Expect.holds("no " + ruledOut, !found.find());
        }
        Expect.holds("texts are not joined by +",
                !Pattern.compile("\"\\s*\\+|\\+\\s*\"").matcher(code).find());
        methodsAreShort(code);
        objectsAreMadeAtFirst(code);
        Expect.finish();
    }

    /** A method opens at an indentation of four or eight and closes at the same one. */
    private static void methodsAreShort(String code) {
        String[] lines = code.split("\n");
        for (int i = 0; i < lines.length; i++) {
            String line = lines[i];
            boolean opens = line.matches(" {4,8}\\S.*\\{") && line.contains("(")
                    || line.matches(" {4,8}\\S.*\\([^;]*");
            if (!opens) {
                continue;
            }
            String close = line.replaceAll("\\S.*", "") + "}";
            int end = i;
            while (end < lines.length && !lines[end].equals(close)) {
                end++;
            }
            Expect.holds("at most " + MOST_LINES + " lines: " + line.trim(), end - i < MOST_LINES);
        }
    }

    /** No call makes an object: only fields at their places, and constructors, may hold "new". */
    private static void objectsAreMadeAtFirst(String code) {
        String opened = "";
        for (String line : code.split("\n")) {
            opened = line.matches(" {4,8}\\w.*\\) \\{") ? line : opened;
            if (line.matches(".*\\bnew\\b.*")) {
                boolean isField = line.matches("( {4}| {8})(private )?final .*;");
                boolean isConstructor = opened.matches(" +(public )?[A-Z]\\w*\\(.*");
                Expect.holds("no call makes an object: " + line.trim(), isField || isConstructor);
            }
        }
    }
}
