import java.util.ArrayList;
import java.util.List;

/**
 * Tests by the document's sentences: each names its promise and quotes the words that it holds the class to.
 * A test that throws is wrong, and so is one that asks nothing; the others go on.
 */
final class Sentences {
    static final int MIN = Integer.MIN_VALUE;
    static final int MAX = Integer.MAX_VALUE;

    interface Body {
        void run();
    }

    static final class Quote {
        final int promise;
        final String words;

        Quote(int promise, String words) {
            this.promise = promise;
            this.words = words;
        }

        @Override
        public String toString() {
            return "promise " + promise + ", \"" + words + "\"";
        }
    }

    final List<Quote> quotes = new ArrayList<>();
    /** The quotes whose test was wrong, each once. */
    final List<String> failed = new ArrayList<>();
    private final boolean isLoud;
    private Quote here;
    private int askedHere;
    private int asked;

    Sentences(boolean isLoud) {
        this.isLoud = isLoud;
    }

    void test(int promise, String words, Body body) {
        here = new Quote(promise, words);
        quotes.add(here);
        askedHere = 0;
        try {
            body.run();
        } catch (RuntimeException | StackOverflowError e) {
            wrong("threw " + e);
        }
        if (askedHere == 0) {
            wrong("asked nothing");
        }
    }

    private void wrong(String what) {
        String name = here.toString();
        if (!failed.contains(name)) {
            failed.add(name);
        }
        if (isLoud) {
            System.out.println(name + ": " + what);
        }
    }

    void is(String what, int got, int want) {
        asked++;
        askedHere++;
        if (got != want) {
            wrong(what + " answered " + got + ", due is " + want);
        }
    }

    /** What was seen ahead of something and behind it. */
    void same(String what, String before, String after) {
        asked++;
        askedHere++;
        if (!before.equals(after)) {
            wrong(what + ": before " + before + ", after " + after);
        }
    }

    /** A text with ^ where its fault is due: the answer, and that nothing of it was taken. */
    void streetFault(String marked, int kind) {
        LatestCoat x = new LatestCoat();
        String text = marked.replace("^", "");
        is("street '" + marked + "'", Due.street(x, text), Due.fault(marked.indexOf('^'), kind));
        is("then there is no street", x.when(), -1);
        is("then the tape is empty", x.count(15), 0);
    }

    void ruleFault(String marked, int kind) {
        LatestCoat x = new LatestCoat();
        String text = marked.replace("^", "");
        is("rule '" + marked + "'", Due.rule(x, text), Due.fault(marked.indexOf('^'), kind));
        is("then there is no rule", x.count(7), 0);
        is("then the tape is empty", x.count(15), 0);
    }

    /** A new object with a street that must be taken. */
    LatestCoat street(String text, int cells) {
        LatestCoat x = new LatestCoat();
        is("street '" + text + "'", Due.street(x, text), cells);
        return x;
    }

    /** Prints how it went and ends the program, with 1 if a test was wrong. */
    void close(String name) {
        System.out.println(name + ": " + quotes.size() + " sentences, " + asked + " answers, " + failed.size() + " wrong");
        System.exit(failed.isEmpty() ? 0 : 1);
    }
}
