import java.io.IOException;
import java.nio.file.DirectoryStream;
import java.nio.file.Files;
import java.nio.file.Path;
import java.util.ArrayList;
import java.util.List;
import java.util.regex.Matcher;
import java.util.regex.Pattern;

/**
 * No sentence of the document's terms and promises stands without a test that quotes it: the quotes of
 * all tests are laid over the document, and no word may stay bare.
 */
public final class SentencesTest {
    private static final Check CHECK = new Check();
    private static final Pattern LITERAL = Pattern.compile("STRING(?:\\s*\\+\\s*STRING)*"
        .replace("STRING", "\"(?:[^\"\\\\\n]|\\\\.)*\""));
    private static final Pattern HOLDS = Pattern.compile("holds\\((\\d+), *$");
    private static final int SHORTEST = 10;

    public static void main(String[] args) throws IOException {
        String document = Check.document();
        boolean[][] quoted = new boolean[30][document.length()];
        try (DirectoryStream<Path> tests = Files.newDirectoryStream(Path.of("src/test/java"), "*Test.java")) {
            for (Path test : tests) {
                layOver(Files.readString(test), document, quoted);
            }
        }
        bare(document, document.indexOf("## Terms") + 8, document.indexOf("The constants: "), quoted[0]);
        for (int promise = 1; promise <= 29; promise++) {
            int heading = document.indexOf("## Promise " + promise + ":");
            int from = document.indexOf("`:", heading) + 2;
            int to = document.indexOf("## ", from);
            bare(document, from, to, quoted[promise]);
        }
        CHECK.end();
    }

    /** Row n: quotes of promise n; row 0: of any, or in a table of a test. */
    private static void layOver(String test, String document, boolean[][] quoted) {
        Matcher m = LITERAL.matcher(test);
        while (m.find()) {
            String quote = m.group().replaceAll("\"\\s*\\+\\s*\"", "");
            quote = quote.substring(1, quote.length() - 1).replace("\\\"", "\"");
            Matcher holds = HOLDS.matcher(test.substring(0, m.start()));
            int promise = holds.find() ? Integer.parseInt(holds.group(1)) : 0;
            int at = quote.length() < SHORTEST && promise == 0 ? -1 : document.indexOf(quote);
            while (at >= 0) {
                for (int i = at; i < at + quote.length(); i++) {
                    quoted[0][i] = true;
                    quoted[promise][i] = true;
                }
                at = document.indexOf(quote, at + 1);
            }
        }
    }

    private static void bare(String document, int from, int to, boolean[] quoted) {
        // Not the numbers of chapters, nor what begins a block.
        Pattern words = Pattern.compile("(?<!======== )(?<!```)\\b[A-Za-z0-9]+");
        Matcher word = words.matcher(document).region(from, to).useTransparentBounds(true);
        List<String> bare = new ArrayList<>();
        while (word.find()) {
            CHECK.due(0, "quotes of \"" + word.group() + "\"", 0, 0);
            if (!quoted[word.start()]) {
                bare.add(word.group());
            }
        }
        if (!bare.isEmpty()) {
            CHECK.fail("no test quotes: " + String.join(" ", bare));
        }
    }
}
