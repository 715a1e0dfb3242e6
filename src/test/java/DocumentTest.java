import java.io.IOException;
import java.nio.charset.StandardCharsets;
import java.nio.file.Files;
import java.nio.file.Path;
import java.util.ArrayList;
import java.util.Arrays;
import java.util.List;

/**
 * Holds the tests by sentences against the document itself: each quote stands there, in the promise it names or in the
 * terms, and together they leave no words of the terms and the promises without a test.
 */
public final class DocumentTest {
    private static final int PROMISES = 35;

    private final List<String> wrong = new ArrayList<>();
    /** The terms with what stands ahead of them at 0, then the text of each promise. */
    private final String[] parts = new String[PROMISES + 1];
    private final boolean[][] quoted = new boolean[PROMISES + 1][];

    private DocumentTest(String document) {
        String terms = between(document, "## What it is", "## Promise 1:");
        parts[0] = plain(terms.substring(terms.indexOf("An object is used")).replaceAll("(?s)## The public face.*?## Terms", ""));
        for (int k = 1; k <= PROMISES; k++) {
            String text = between(document, "## Promise " + k + ":", k < PROMISES ? "## Promise " + (k + 1) + ":" : "## Not promised");
            parts[k] = plain(text.replaceFirst("^[^\n]*", "").replaceFirst("`[^`]*`", ""));
        }
        for (int k = 0; k <= PROMISES; k++) {
            quoted[k] = new boolean[parts[k].length()];
        }
    }

    private static String between(String text, String from, String to) {
        int start = text.indexOf(from);
        int end = text.indexOf(to);
        if (start < 0 || end < start) {
            throw new IllegalStateException("the document has no part from " + from + " to " + to);
        }
        return text.substring(start, end);
    }

    private static String plain(String text) {
        return text.replaceAll("```(text)?", " ").replaceAll("==== I+\\.", " ").replaceAll("\\s+", " ").trim();
    }

    public static void main(String[] args) throws IOException {
        String document = Files.readString(Path.of("../shared/DOC.md"), StandardCharsets.UTF_8);
        Sentences t = new Sentences(false);
        StreetSentencesTest.all(t);
        RuleSentencesTest.all(t);
        ActSentencesTest.all(t);
        AskSentencesTest.all(t);
        LogSentencesTest.all(t);
        DocumentTest test = new DocumentTest(document);
        for (Sentences.Quote quote : t.quotes) {
            test.mark(quote);
        }
        for (int k = 0; k <= PROMISES; k++) {
            test.lookForGaps(k);
        }
        for (String line : test.wrong) {
            System.out.println("DocumentTest: " + line);
        }
        System.out.println("DocumentTest: " + t.quotes.size() + " quotes, " + test.wrong.size() + " wrong");
        System.exit(test.wrong.isEmpty() ? 0 : 1);
    }

    private void mark(Sentences.Quote quote) {
        String words = plain(quote.words);
        int part = parts[quote.promise].contains(words) ? quote.promise : 0;
        int at = parts[part].indexOf(words);
        if (at < 0) {
            wrong.add("not in the document: " + quote);
        } else {
            Arrays.fill(quoted[part], at, at + words.length(), true);
        }
    }

    /** Signs between quotes need no test; a word or a number does. */
    private void lookForGaps(int part) {
        StringBuilder gap = new StringBuilder();
        for (int k = 0; k <= parts[part].length(); k++) {
            if (k < parts[part].length() && !quoted[part][k]) {
                gap.append(parts[part].charAt(k));
            } else {
                if (gap.toString().matches(".*[A-Za-z0-9].*")) {
                    wrong.add((part == 0 ? "the terms" : "promise " + part) + " without a test: \"" + gap + "\"");
                }
                gap.setLength(0);
            }
        }
    }
}
