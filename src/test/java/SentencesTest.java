import java.io.IOException;
import java.nio.file.DirectoryStream;
import java.nio.file.Files;
import java.nio.file.Path;

/** Each sentence of the document is named, word by word, by a test of its own in one of the *EdgesTest classes. */
public final class SentencesTest {
    private static final Path DOCUMENT = Path.of("../shared/DOC.md");
    private static final Path TESTS = Path.of("src/test/java");

    private static String tests = "";
    private static int sentences = 0;

    public static void main(String[] args) throws IOException {
        tests = readTests();
        String section = "";
        for (String line : Files.readAllLines(DOCUMENT)) {
            if (line.startsWith("## ")) {
                section = line.substring(3);
            } else if (section.startsWith("Promise ")) {
                checkPromise("promise " + section.substring(8, section.indexOf(':')), line);
            } else if (section.equals("Terms") && !isIntroduction(line)) {
                checkTerms(line);
            } else if (section.equals("What it is") && line.startsWith("An object")) {
                checkTerms(line);
            }
        }
        Check.promise("the document");
        Check.due(true, "at least 100 sentences found", () -> sentences >= 100);
        Check.end();
    }

    /** The text of the tests, with each text that stands on several lines put together. */
    private static String readTests() throws IOException {
        StringBuilder text = new StringBuilder();
        try (DirectoryStream<Path> files = Files.newDirectoryStream(TESTS, "*EdgesTest.java")) {
            for (Path file : files) {
                text.append(Files.readString(file).replaceAll("\"\\s*\\+\\s*\"", ""));
            }
        }
        return text.toString();
    }

    private static boolean isIntroduction(String line) {
        return line.startsWith("Goods stand in trees") || line.startsWith("Ahead of the calls");
    }

    private static void checkPromise(String promise, String line) {
        if (line.startsWith("`")) {
            checkSentence(promise, line.substring(line.indexOf("`: ") + 3));
        } else if (line.startsWith("- `") || line.startsWith("Returns ") || line.startsWith("Throws ")) {
            checkSentence(promise, line);
        }
    }

    private static void checkTerms(String line) {
        for (String sentence : line.split("(?<=\\.) ")) {
            boolean isHeading = sentence.matches("[A-Z][a-z]+\\.");
            if (!isHeading && !sentence.isEmpty()) {
                checkSentence("terms", sentence);
            }
        }
    }

    private static void checkSentence(String where, String sentence) {
        sentences++;
        Check.promise(where);
        String naming = "Check.sentence(\"" + where + "\", \"" + sentence + "\")";
        Check.due(true, naming + " stands in a test", () -> tests.contains(naming));
    }
}
