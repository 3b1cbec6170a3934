import java.io.IOException;
import java.io.UncheckedIOException;
import java.nio.file.Files;
import java.nio.file.Path;

/** Counts and prints the answers that are not as due, by the promise and the sentence they break. */
final class Check {
    private static final String DOCUMENT = document();

    private int wrong;
    private int asked;
    private int promise;
    private String sentence = "";

    /** The document in one line: its sentences go on over the ends of lines. */
    static String document() {
        try {
            return Files.readString(Path.of("../shared/DOC.md")).replaceAll("\\s+", " ");
        } catch (IOException e) {
            throw new UncheckedIOException(e);
        }
    }

    /** The answers asked from now on by due(call, got, want) hold this sentence of the document. */
    void holds(int promise, String sentence) {
        this.promise = promise;
        this.sentence = sentence;
        if (!DOCUMENT.contains(sentence)) {
            fail("the document does not say: " + sentence);
        }
    }

    void due(String call, long got, long want) {
        due(promise, "\"" + sentence + "\": " + call, got, want);
    }

    void due(int promise, String call, long got, long want) {
        asked++;
        if (got != want) {
            wrong++;
            System.out.println("promise " + promise + ": " + call + " answered " + got + ", due is " + want);
        }
    }

    void fail(String what) {
        asked++;
        wrong++;
        System.out.println(what);
    }

    /** Ends the program with exit code 1 if an answer was wrong, or if nothing was asked. */
    void end() {
        System.out.println(asked + " answers asked, " + wrong + " wrong");
        if (wrong != 0 || asked == 0) {
            System.exit(1);
        }
    }

    static void type(LadderSurvey x, String text) {
        for (int i = 0; i < text.length(); i++) {
            x.type(text.charAt(i));
        }
    }

    /** What ladder() answers to a text; the text is gone afterwards. */
    static int tell(LadderSurvey x, String text) {
        x.clear();
        type(x, text);
        int answer = x.ladder();
        x.clear();
        return answer;
    }

    static LadderSurvey told(String text) {
        LadderSurvey x = new LadderSurvey();
        if (tell(x, text) < 0) {
            throw new IllegalArgumentException(text);
        }
        return x;
    }
}
