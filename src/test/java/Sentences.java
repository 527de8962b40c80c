import java.io.IOException;
import java.nio.file.Files;
import java.nio.file.Path;
import java.util.Map;
import java.util.TreeMap;
import java.util.regex.Matcher;
import java.util.regex.Pattern;

/**
 * The document's sentences, each with a test of its own. A test says which promise it is of and which words; these have
 * to stand in the document as they are said, and at the end no word of a promise or of the terms may be without a test.
 */
final class Sentences {
    private static final Pattern PROMISE = Pattern.compile("## Promise (\\d+): [^`]*`[^`]*`: (.*?) (?=## )");
    private static final Pattern TERMS = Pattern.compile("## Terms (.*?) Ahead of the calls");

    /** A passage of the document, and which of its letters a test is of. */
    private static final class Passage {
        final String text;
        final boolean[] tested;

        Passage(String text) {
            this.text = text;
            tested = new boolean[text.length()];
        }

        boolean says(String words) {
            int at = text.indexOf(words);
            if (at < 0 || text.indexOf(words, at + 1) >= 0) {
                return false;
            }
            for (int i = 0; i < words.length(); i++) {
                tested[at + i] = true;
            }
            return true;
        }

        String untested() {
            StringBuilder left = new StringBuilder();
            for (int i = 0; i < tested.length; i++) {
                left.append(tested[i] ? ' ' : text.charAt(i));
            }
            return left.toString().replaceAll("[\\s.,;:()]+", " ").trim();
        }
    }

    private final Map<Integer, Passage> promises = new TreeMap<>();
    private final Passage terms;
    private String sentence = "";
    private int duesOfSentence = 1;
    private int sentences;
    private int passed;
    private int failed;

    Sentences(Path document) throws IOException {
        String doc = Files.readString(document).replaceAll("```(text)?|==== \\d ", " ").replaceAll("\\s+", " ");
        Matcher promise = PROMISE.matcher(doc);
        while (promise.find()) {
            promises.put(Integer.parseInt(promise.group(1)), new Passage(promise.group(2)));
        }
        Matcher told = TERMS.matcher(doc);
        terms = new Passage(told.find() ? told.group(1) : "");
    }

    /** What follows is due by these words of this promise; they stand there once. */
    void of(int promise, String words) {
        begin("promise " + promise + ", '" + words + "'");
        Passage p = promises.get(promise);
        note(p != null && p.says(words), "isn't said there, or not only once");
    }

    /** What follows is due by these words of the terms, which this promise uses; they stand there once. */
    void term(int promise, String words) {
        begin("promise " + promise + " with the term '" + words + "'");
        note(promises.containsKey(promise) && terms.says(words), "isn't said there, or not only once");
    }

    private void begin(String next) {
        note(duesOfSentence > 0, "nothing is asked of it");
        sentence = next;
        duesOfSentence = 0;
        sentences++;
    }

    void due(String call, long got, long want) {
        duesOfSentence++;
        note(got == want, call + " answered " + got + ", due is " + want);
    }

    private void note(boolean holds, String otherwise) {
        if (holds) {
            passed++;
        } else {
            failed++;
            System.out.println(sentence + ": " + otherwise);
        }
    }

    void end(int lastPromise) {
        begin("the end");
        for (int n = 1; n <= lastPromise; n++) {
            sentence = "promise " + n;
            Passage p = promises.get(n);
            note(p != null && p.untested().isEmpty(), "without a test: " + (p == null ? "all" : p.untested()));
        }
        sentence = "terms";
        note(!terms.text.isEmpty() && terms.untested().isEmpty(), "without a test: " + terms.untested());
        System.out.println("SentencesTest: " + (sentences - 1) + " sentences, " + passed + " passed, " + failed + " failed");
        if (failed > 0) {
            System.exit(1);
        }
    }
}
