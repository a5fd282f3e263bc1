import java.io.IOException;
import java.nio.file.Files;
import java.nio.file.Path;
import java.util.ArrayList;
import java.util.BitSet;
import java.util.List;
import java.util.regex.Matcher;
import java.util.regex.Pattern;
import java.util.stream.Stream;

/**
 * Each sentence of the document's terms and promises, and each part of one at a semicolon, has a test that is named by
 * it: some says(promise, "its words") in a test's source. (That the words stand there, Check looks at in that test.)
 */
public final class SentenceTest {
    private static final String TEXT = "\"(?:[^\"\\\\]|\\\\.)*\"";
    private static final Pattern SAYS = Pattern.compile("says\\((\\d+),\\s*(" + TEXT + "(?:\\s*\\+\\s*" + TEXT + ")*)\\)");

    private final List<List<String>> quotes = new ArrayList<>();
    private final Check check = new Check();

    public static void main(String[] args) throws IOException {
        SentenceTest test = new SentenceTest();
        test.gather();
        test.promises();
        test.terms();
        test.check.end();
    }

    private void gather() throws IOException {
        for (int promise = 0; promise <= Document.PROMISES; promise++) {
            quotes.add(new ArrayList<>());
        }
        try (Stream<Path> files = Files.list(Path.of("src/test/java"))) {
            for (Path file : files.filter(f -> f.toString().endsWith("Test.java")).sorted().toList()) {
                Matcher says = SAYS.matcher(Files.readString(file));
                while (says.find()) {
                    quotes.get(Integer.parseInt(says.group(1))).add(textOf(says.group(2)));
                }
            }
        }
    }

    /** What a text written in the source is: its quotes and joins away. */
    private static String textOf(String source) {
        return source.replaceAll("\"\\s*\\+\\s*\"", "").replaceAll("^\"|\"$", "").replace("\\\"", "\"");
    }

    /** Which signs of a section stand under words that some test quotes. */
    private BitSet quotedSigns(int promise) {
        String section = Document.section(promise);
        BitSet quoted = new BitSet();
        for (String quote : quotes.get(promise)) {
            for (int at = section.indexOf(quote); at >= 0; at = section.indexOf(quote, at + 1)) {
                quoted.set(at, at + quote.length());
            }
        }
        return quoted;
    }

    /** A test may leave out a few words of a sentence, but not most of them. */
    private void look(int promise, String sentence, int at, BitSet quoted) {
        int many = quoted.get(at, at + sentence.length()).cardinality();
        check.due("section " + promise + " has a test for: " + sentence, 4 * many >= 3 * sentence.length(), true);
    }

    private void promises() {
        for (int promise = 1; promise <= Document.PROMISES; promise++) {
            lookAtAll(promise, 0);
        }
    }

    /** Ahead of the terms the document says what it is about; of that the 512 calls alone are a bound. */
    private void terms() {
        lookAtAll(0, Document.section(0).indexOf("A TOWN is a text"));
        String calls = "An object is used for at most 512 calls after it has been made";
        look(0, calls, Document.section(0).indexOf(calls), quotedSigns(0));
    }

    private void lookAtAll(int promise, int from) {
        BitSet quoted = quotedSigns(promise);
        int at = 0;
        for (String sentence : Document.sentences(promise)) {
            at = Document.section(promise).indexOf(sentence, at);
            if (at >= from) {
                look(promise, sentence, at, quoted);
            }
            at += sentence.length();
        }
    }
}
