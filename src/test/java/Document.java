import java.nio.charset.StandardCharsets;
import java.nio.file.Files;
import java.nio.file.Path;
import java.util.ArrayList;
import java.util.List;

/** The sentences of ../shared/DOC.md: each test quotes one, and what none quotes can be told. */
final class Document {
    static final int PROMISES = 43;
    /** What holds of several promises: what the document says ahead of the first one. */
    private static final int TERMS = 0;

    private final String[] texts = new String[PROMISES + 1];
    private final boolean[][] quoted = new boolean[PROMISES + 1][];

    Document(Path path) throws Exception {
        String all = new String(Files.readAllBytes(path), StandardCharsets.ISO_8859_1);
        String[] parts = all.split("\n## Promise \\d+: \\w[^\n]*\n|\n## Not promised\n");
        texts[TERMS] = plain(terms(parts[0]));
        for (int promise = 1; promise <= PROMISES; promise++) {
            texts[promise] = plain(parts[promise].replaceFirst("`[^`]*`: ", ""));
        }
        for (int i = 0; i < texts.length; i++) {
            quoted[i] = new boolean[texts[i].length()];
        }
    }

    /** Of what stands ahead of the promises: how long an object serves, the terms, the constant. */
    private static String terms(String text) {
        String serves = text.substring(text.indexOf("An object is used for"), text.indexOf("\n## The public face"));
        String terms = text.substring(text.indexOf("\n## Terms") + 9);
        return serves + terms.replaceAll("\nAhead of the calls [^\n]*", "").replace("The constants: ", "")
            .replaceAll("====( \\d\\.)?", "");
    }

    private static String plain(String text) {
        return text.replace("```text", " ").replace("`", "").replaceAll("\\s+", " ").trim();
    }

    /** Whether the document says so: of that promise, or of several. */
    boolean says(int promise, String sentence) {
        return mark(promise, sentence) || mark(TERMS, sentence);
    }

    private boolean mark(int i, String sentence) {
        int at = texts[i].indexOf(sentence);
        for (int k = at; at >= 0 && k < at + sentence.length(); k++) {
            quoted[i][k] = true;
        }
        return at >= 0;
    }

    /** What no test quotes, by its promise; a word counts if a letter or a digit of it does. */
    List<String> unquoted() {
        List<String> all = new ArrayList<>();
        for (int i = 0; i < texts.length; i++) {
            StringBuilder b = new StringBuilder();
            for (int k = 0; k < texts[i].length(); k++) {
                b.append(quoted[i][k] ? '|' : texts[i].charAt(k));
            }
            for (String rest : b.toString().split("\\|+")) {
                if (rest.matches(".*[A-Za-z0-9].*")) {
                    all.add((i == TERMS ? "terms" : "promise " + i) + ": " + rest.trim());
                }
            }
        }
        return all;
    }
}
