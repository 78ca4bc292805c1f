import java.nio.charset.StandardCharsets;
import java.nio.file.Files;
import java.nio.file.Path;
import java.util.regex.Matcher;
import java.util.regex.Pattern;

/** The rules of ../shared/LANGUAGE.md that a look at the source can tell; run from the project's root. */
public final class LanguageTest {
    private static final Check check = new Check("LanguageTest");

    public static void main(String[] args) throws Exception {
        byte[] bytes = Files.readAllBytes(Path.of("src/main/java/YawnRoute.java"));
        for (byte b : bytes) {
            if (b < 0) {
                check.holds("signs are 1 to 127", false);
            }
        }
        String source = new String(bytes, StandardCharsets.ISO_8859_1);
        String bare = bare(source);
        words(bare);
        calls(bare);
        loops(bare);
        sizes(bare);
        check.end();
    }

    /** Without comments, and without what stands in texts. */
    private static String bare(String source) {
        String s = source.replaceAll("(?s)/\\*.*?\\*/", "").replaceAll("//[^\n]*", "");
        return s.replaceAll("\"[^\"\n]*\"", "\"\"").replaceAll("'[^'\n]'", "' '");
    }

    private static int times(String text, String pattern) {
        Matcher m = Pattern.compile(pattern).matcher(text);
        int n = 0;
        while (m.find()) {
            n++;
        }
        return n;
    }

    private static void none(String rule, String bare, String pattern) {
        check.due(rule + ": " + pattern, times(bare, pattern), 0);
    }

    private static void words(String bare) {
        none("rule 6", bare, "\\b(throw|throws|try|catch|finally|synchronized|assert)\\b");
        none("rule 6", bare, "\\b(equals|hashCode|toString)\\b");
        none("rule 2", bare, "->|::|\\benum\\b|\\babstract\\b");
        none("rule 3", bare, "\\b(Object|Long|Double|Character|Boolean|var|Map|Set)\\s+\\w+");
        none("rule 3", bare, "\\bnew\\s+\\w+\\[[^\\]]*\\]\\[[^\\]]*\\]\\[");
        none("rule 5", bare, "\\bstatic\\s*\\{");
        none("rule 5", bare, "\\bstatic\\s+(?!final)(int|long|byte|boolean|char|String)(\\[\\])*\\s+\\w+\\s*[;=]");
        none("rule 13", bare, "\\b(System\\.(?!arraycopy)|Random|Thread|nanoTime|File)\\b");
        none("rule 10, texts by +", bare, "\"\"\\s*\\+|\\+\\s*\"\"");
        check.due("rule 4: imports", times(bare, "\\bimport\\b"), times(bare, "import java\\.util\\.Arrays;"));
        check.due("no package", times(bare, "\\bpackage\\b"), 0);
    }

    /** Of the library only what stands in rule 4. */
    private static void calls(String bare) {
        Matcher m = Pattern.compile("\\b(Math|Integer|Long|Arrays|System|String)\\.(\\w+)").matcher(bare);
        while (m.find()) {
            String call = m.group(1) + "." + m.group(2);
            check.holds(call + " is allowed", call.matches("Math\\.(max|min|abs|floorMod|floorDiv)"
                + "|Integer\\.(bitCount|compare|max|min)|Arrays\\.(fill|copyOf|copyOfRange)|System\\.arraycopy"));
        }
    }

    private static void loops(String bare) {
        none("rule 9: a loop tells its bound", bare, "\\bwhile\\b|\\bdo\\b");
        Matcher m = Pattern.compile("\\bfor \\(([^;]*);([^;]*);([^{]*)\\) \\{").matcher(bare);
        int n = 0;
        while (m.find()) {
            n++;
            boolean counts = m.group(3).trim().matches("(\\w+)(\\+\\+|--)|shift -= 8");
            check.holds("rule 9: for (" + m.group(1) + ";" + m.group(2) + ";" + m.group(3) + ") has a counter against a bound",
                counts && m.group(2).matches("(?s).*[<>].*"));
        }
        check.due("every for was looked at", n, times(bare, "\\bfor \\("));
    }

    private static void sizes(String bare) {
        String[] lines = bare.split("\n");
        int classes = times(bare, "\\bclass\\s+\\w+");
        check.holds("rule 11: " + classes + " classes", classes <= 12);
        int longest = 0;
        int begun = -1;
        for (int i = 0; i < lines.length; i++) {
            String line = lines[i];
            if (line.matches("(    |        )[A-Za-z].*\\) \\{")) {
                begun = i;
                check.holds("rule 11: parameters of " + line.trim(), line.chars().filter(c -> c == ',').count() <= 6);
            } else if (line.matches("(    |        )\\}") && begun >= 0) {
                longest = Math.max(longest, i - begun + 1);
                begun = -1;
            }
        }
        check.holds("rule 11: the longest method has " + longest + " lines", longest > 10 && longest <= 60);
    }
}
