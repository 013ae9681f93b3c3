import java.io.IOException;
import java.nio.charset.StandardCharsets;
import java.nio.file.Files;
import java.nio.file.Path;
import java.util.ArrayList;
import java.util.List;

/** The parts of ../shared/DOC.md that say what the class does, and which of their words tests have quoted. */
final class Document {
    static final int PROMISES = 33;
    private static final int TERMS = 0;

    private final String[] parts = new String[PROMISES + 1];
    private final boolean[][] quoted = new boolean[PROMISES + 1][];

    private Document(String text) {
        for (int part = TERMS; part <= PROMISES; part++) {
            String heading = part == TERMS ? "## Terms\n" : "## Promise " + part + ": ";
            int start = text.indexOf('\n', text.indexOf(heading));
            String told = text.substring(start, text.indexOf("\n## ", start));
            parts[part] = plain(part == TERMS ? lifetime(text) + told : told);
            quoted[part] = new boolean[parts[part].length()];
        }
    }

    static Document read() throws IOException {
        return new Document(Files.readString(Path.of("../shared/DOC.md"), StandardCharsets.UTF_8));
    }

    /** The one sentence of the part 'What it is' that tells how long an object is used. */
    private static String lifetime(String text) {
        int start = text.indexOf("An object is used for");
        return text.substring(start, text.indexOf('\n', start));
    }

    /** One line, without the call's signature, bullets, headings inside, and what is said of the interface's text. */
    private static String plain(String part) {
        StringBuilder text = new StringBuilder();
        for (String line : part.split("\n")) {
            if (!line.startsWith("Ahead of the calls") && !line.equals("Freezes, budgets")) {
                text.append(line.replaceFirst("^`\\w[^`]*\\)[^`]*`: ", "").replaceFirst("^- ", "")).append(' ');
            }
        }
        return text.toString().replaceAll("\\s+", " ");
    }

    /** Marks the words in the promise's part, or else in the part 'Terms'; answers whether they stand there. */
    boolean quote(int promise, String words) {
        return promise >= 1 && promise <= PROMISES && (mark(promise, words) || mark(TERMS, words));
    }

    private boolean mark(int part, String words) {
        int start = parts[part].indexOf(words);
        for (int i = start; start >= 0 && i < start + words.length(); i++) {
            quoted[part][i] = true;
        }
        return start >= 0;
    }

    /** How many exceptions the promise names. */
    int refusals(int promise) {
        return parts[promise].split("Throws `", -1).length - 1;
    }

    /** The runs of words that no test has quoted. */
    List<String> unquoted() {
        List<String> left = new ArrayList<>();
        for (int part = TERMS; part <= PROMISES; part++) {
            StringBuilder run = new StringBuilder();
            for (int i = 0; i <= parts[part].length(); i++) {
                if (i < parts[part].length() && !quoted[part][i]) {
                    run.append(parts[part].charAt(i));
                } else {
                    if (run.toString().matches(".*\\w.*")) {
                        left.add((part == TERMS ? "Terms: " : "Promise " + part + ": ") + run);
                    }
                    run.setLength(0);
                }
            }
        }
        return left;
    }
}
