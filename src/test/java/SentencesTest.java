import java.io.IOException;
import java.nio.file.Files;
import java.nio.file.Path;
import java.util.Arrays;
import java.util.regex.Matcher;
import java.util.regex.Pattern;

/** The tests by sentence quote the document as it stands, and leave no sentence of it out. */
public final class SentencesTest {
    private static final Checks CHECK = new Checks();
    private static final String TEXT = "\"(?:[^\"\\\\]|\\\\.)*\"";
    private static final Pattern HOLDS =
        Pattern.compile("CHECK\\.holds\\((?:\\w+|" + TEXT + "), ((?:" + TEXT + "|\\s|\\+)+)\\);");

    private static String read(String path) throws IOException {
        return Files.readString(Path.of(path));
    }

    private static String inOneLine(String text) {
        return text.replaceAll("\\s+", " ").strip();
    }

    /** What in the document says nothing itself: headings, signatures, fences, how the interface is ordered. */
    private static String sayingsOf(String document) {
        String terms = document.substring(document.indexOf("## Terms"), document.indexOf("## Not promised"));
        return inOneLine(terms.replaceAll("(?m)^## .*$", "").replaceAll("(?m)^Ahead of the calls .*$", "").replaceAll("(?m)^```\\w*$", "")
            .replaceAll("(?m)^`[^`\n]*`: ", "").replaceAll("(?m)^==== [123]", ""));
    }

    private static String quotedIn(String holds) {
        StringBuilder quoted = new StringBuilder();
        Matcher m = Pattern.compile(TEXT).matcher(holds);
        while (m.find()) {
            quoted.append(m.group(), 1, m.group().length() - 1);
        }
        return inOneLine(quoted.toString());
    }

    private static void cover(boolean[] covered, String sayings, String sentence) {
        for (int at = sayings.indexOf(sentence); at >= 0; at = sayings.indexOf(sentence, at + 1)) {
            Arrays.fill(covered, at, at + sentence.length(), true);
        }
    }

    private static void coverBy(String test, boolean[] covered, String sayings, String document) throws IOException {
        String source = read("src/test/java/" + test + ".java");
        int quotes = 0;
        Matcher m = HOLDS.matcher(source);
        while (m.find()) {
            quotes++;
            String sentence = quotedIn(m.group(1));
            CHECK.due(test + ": it stands in the document: " + sentence, document.contains(sentence) ? 1 : 0, 1);
            cover(covered, sayings, sentence);
        }
        CHECK.due(test + ": sentences", quotes, source.split("CHECK\\.holds\\(").length - 1);
    }

    public static void main(String[] args) throws IOException {
        String document = read("../shared/DOC.md");
        String sayings = sayingsOf(document);
        boolean[] covered = new boolean[sayings.length()];
        for (String test : new String[] {"TermsTest", "WakingTest", "PromisesTest"}) {
            coverBy(test, covered, sayings, inOneLine(document));
        }
        StringBuilder left = new StringBuilder();
        for (int k = 0; k < covered.length; k++) {
            left.append(covered[k] ? ' ' : sayings.charAt(k));
        }
        CHECK.same("What no test holds", inOneLine(left.toString().replaceAll("[^A-Za-z0-9#\\[(]", " ")), "");
        CHECK.end("SentencesTest");
    }
}
