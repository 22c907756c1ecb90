import java.io.IOException;
import java.nio.charset.StandardCharsets;
import java.nio.file.Files;
import java.nio.file.Path;
import java.util.ArrayList;
import java.util.List;
import java.util.regex.Matcher;
import java.util.regex.Pattern;

/** The words of the document's terms and promises, and which of them a test has quoted. */
final class Words {
    /** More than the document has, for promises to come. */
    private static final int PROMISES = 99;
    private static final int TERMS = 0;

    private final String[] sections = new String[PROMISES + 1];
    private final boolean[][] quoted = new boolean[PROMISES + 1][];

    Words(Path document) throws IOException {
        StringBuilder[] texts = new StringBuilder[PROMISES + 1];
        for (int n = 0; n <= PROMISES; n++) {
            texts[n] = new StringBuilder();
        }
        StringBuilder into = null;
        for (String line : Files.readAllLines(document, StandardCharsets.UTF_8)) {
            if (line.startsWith("## ")) {
                int section = sectionOf(line);
                into = section < 0 ? null : texts[section];
            } else if (into != null && !line.startsWith("```")) {
                into.append(withoutFrame(line)).append(' ');
            }
        }
        for (int n = 0; n <= PROMISES; n++) {
            sections[n] = evened(texts[n].toString());
            quoted[n] = new boolean[sections[n].length()];
        }
    }

    private static int sectionOf(String heading) {
        Matcher promise = Pattern.compile("## Promise (\\d+):.*").matcher(heading);
        if (promise.matches()) {
            return Integer.parseInt(promise.group(1));
        }
        return heading.equals("## Terms") ? TERMS : -1;
    }

    /** A line without the call's face and without the numbers of the terms' parts, which say nothing. */
    private static String withoutFrame(String line) {
        return line.replaceFirst("^`[^`]*\\)`: ", "").replaceFirst("^==== [IVX]+\\. ", "");
    }

    private static String evened(String text) {
        return text.replaceAll("\\s+", " ").trim();
    }

    /** Marks words of a promise, or else of the terms, as quoted; false if they stand in neither. */
    boolean quote(int promise, String words) {
        return quoteIn(promise, words) || quoteIn(TERMS, words);
    }

    private boolean quoteIn(int section, String words) {
        int from = sections[section].indexOf(evened(words));
        if (from < 0) {
            return false;
        }
        java.util.Arrays.fill(quoted[section], from, from + evened(words).length(), true);
        return true;
    }

    /** The words that no test has quoted, each with where it stands. */
    List<String> left() {
        List<String> left = new ArrayList<>();
        for (int n = 0; n <= PROMISES; n++) {
            StringBuilder run = new StringBuilder();
            for (int at = 0; at <= sections[n].length(); at++) {
                if (at < sections[n].length() && !quoted[n][at]) {
                    run.append(sections[n].charAt(at));
                } else {
                    if (run.toString().matches("(?s).*[A-Za-z0-9].*")) {
                        left.add((n == TERMS ? "terms" : "promise " + n) + ": " + run.toString().trim());
                    }
                    run.setLength(0);
                }
            }
        }
        return left;
    }
}
