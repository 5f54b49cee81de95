import java.io.IOException;
import java.lang.reflect.Method;
import java.nio.file.DirectoryStream;
import java.nio.file.Files;
import java.nio.file.Path;
import java.util.ArrayList;
import java.util.List;
import java.util.Map;

/**
 * Every sentence of the document that binds the program is quoted by a test of its section: each sentence of the
 * parts before the promises, and each argument and each clause of each promise.
 */
public final class EverySentenceTest {
    private static final Path TESTS = Path.of("src/test/java");
    private static final List<String> FREE = List.of("pulseRemote", "whatItIs", "description", "thePublicFace",
            "notPromised");
    /** What only leads to another sentence. */
    private static final List<String> LEADS = List.of("Learning from the train in a slot works as follows",
            "Let n be the number of durations of a frame", "the signature, then what it does");

    private EverySentenceTest() { }

    public static void main(String[] args) throws IOException, ClassNotFoundException {
        List<Method> tests = tests();
        int missing = 0;
        int sentences = 0;
        for (Map.Entry<String, String> section : Sentences.document().entrySet()) {
            if (FREE.contains(section.getKey())) {
                continue;
            }
            for (String sentence : sentences(section.getValue())) {
                sentences++;
                if (!isQuoted(section.getKey(), sentence, tests)) {
                    missing++;
                    System.out.println("no test of " + section.getKey() + " says: " + sentence);
                }
            }
        }
        System.out.println(missing == 0 ? sentences + " sentences have tests" : missing + " sentences have no test");
        if (missing != 0) {
            System.exit(1);
        }
    }

    private static List<Method> tests() throws IOException, ClassNotFoundException {
        List<Method> tests = new ArrayList<>();
        try (DirectoryStream<Path> files = Files.newDirectoryStream(TESTS, "SentencesOf*Test.java")) {
            for (Path file : files) {
                String name = file.getFileName().toString().replace(".java", "");
                tests.addAll(Sentences.testsOf(Class.forName(name)));
            }
        }
        return tests;
    }

    /** The clauses of a section, without the signature and the title of a group of promises. */
    private static List<String> sentences(String section) {
        String text = section.replaceAll("^`int [^`]*`|^`PulseRemote\\(\\)`|---- [a-z ]*?(?= [A-Z])", "");
        List<String> sentences = new ArrayList<>();
        for (String part : text.split("(?<=[.;:]\\)?) +(?![0-9])| (?=- `)|(?<=[0-9a-zA-Z)]) (?=Returns )")) {
            String sentence = withoutEnd(part);
            if (part.matches(".*[a-z].*") && !part.endsWith(":") && !LEADS.contains(sentence)) {
                sentences.add(sentence);
            }
        }
        return sentences;
    }

    private static String withoutEnd(String sentence) {
        return sentence.replaceAll("[.;:]$", "").trim();
    }

    private static boolean isQuoted(String section, String sentence, List<Method> tests) {
        for (Method test : tests) {
            String quote = withoutEnd(Sentences.quoteOf(test));
            if (Sentences.sectionOf(test).equals(section) && (quote.contains(sentence) || sentence.contains(quote))) {
                return true;
            }
        }
        return false;
    }
}
