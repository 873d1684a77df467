import java.io.IOException;
import java.lang.reflect.Method;
import java.nio.file.Files;
import java.nio.file.Path;
import java.util.List;
import java.util.stream.Collectors;
import java.util.stream.Stream;

/**
 * Every word of the sentences under "Terms" and under the promises' headings stands in a Sentence
 * of some test method, and every Sentence is found in the document, in one place.
 */
public final class SentencesTest {
    private static final Check check = new Check();
    private static final Path DOCUMENT = Path.of("..", "shared", "DOC.md");
    private static final Path TESTS = Path.of("src", "test", "java");

    public static void main(String[] args) throws IOException, ClassNotFoundException {
        if (!Files.exists(DOCUMENT)) {
            System.out.println("there is no " + DOCUMENT + " to compare with");
            return;
        }
        String text = sentencesOf(Files.readString(DOCUMENT));
        boolean[] tested = new boolean[text.length()];
        for (String name : testClasses()) {
            for (Method method : Check.methodsWithSentences(Class.forName(name))) {
                for (String words : method.getAnnotation(Sentence.class).value()) {
                    mark(text, tested, words, name + "." + method.getName());
                }
            }
        }
        eachWordIsTested(text, tested);
        check.end();
    }

    /** Without headings, fences and the signatures in front, and with single spaces. */
    private static String sentencesOf(String document) {
        int from = document.indexOf("## Terms");
        int to = document.indexOf("## Not promised");
        return document.substring(from, to)
            .replaceAll("(?m)^##.*$", "")
            .replaceAll("(?m)^```.*$", "")
            .replaceAll("(?m)^`[^`]*\\)`: ", "")
            .replaceAll("\\s+", " ");
    }

    private static List<String> testClasses() throws IOException {
        try (Stream<Path> files = Files.list(TESTS)) {
            return files.map(file -> file.getFileName().toString())
                .filter(file -> file.endsWith("Test.java"))
                .map(file -> file.replace(".java", ""))
                .sorted()
                .collect(Collectors.toList());
        }
    }

    private static void mark(String text, boolean[] tested, String words, String test) {
        int from = text.indexOf(words);
        check.due("in the document: " + words + " (" + test + ")", 1, from >= 0 ? 1 : 0);
        check.due("once: " + words + " (" + test + ")", from, text.lastIndexOf(words));
        for (int i = from; from >= 0 && i < from + words.length(); i++) {
            tested[i] = true;
        }
    }

    private static void eachWordIsTested(String text, boolean[] tested) {
        StringBuilder untested = new StringBuilder();
        for (int i = 0; i < text.length(); i++) {
            if (!tested[i]) {
                untested.append(text.charAt(i));
            } else if (untested.length() > 0) {
                dueWithoutWords(untested.toString());
                untested.setLength(0);
            }
        }
        dueWithoutWords(untested.toString());
    }

    private static void dueWithoutWords(String untested) {
        boolean words = untested.chars().anyMatch(Character::isLetterOrDigit);
        check.due("has a test: " + untested, 1, words ? 0 : 1);
    }
}
