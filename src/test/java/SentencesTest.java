import java.lang.reflect.Method;
import java.lang.reflect.Modifier;
import java.nio.file.Files;
import java.nio.file.Path;
import java.util.ArrayList;
import java.util.HashSet;
import java.util.List;
import java.util.Map;
import java.util.Set;
import java.util.TreeMap;

/**
 * Runs the tests of the document's sentences, and holds them against the document: what a test says to be its
 * sentence must stand there, and each sentence of each promise and of the terms must have its test.
 */
public final class SentencesTest {
    private static final int PROMISES = 46;
    private static final List<Class<?>> CLASSES = List.of(
        SentencesOfTerms.class, SentencesOfRows.class, SentencesOfTexts.class, SentencesOfDeeds.class,
        SentencesAside.class, SentencesOfProgrammes.class, SentencesOfEvenings.class, SentencesOfChances.class,
        SentencesTold.class);

    private static final Map<Integer, String> DOCUMENT = new TreeMap<>();
    private static final Set<String> TESTED = new HashSet<>();
    private static String terms = "";

    public static void main(String[] args) throws Exception {
        readDocument();
        for (Class<?> tests : CLASSES) {
            runAll(tests);
        }
        Checks.test("the document");
        for (int promise = 1; promise <= PROMISES; promise++) {
            for (String sentence : sentencesOf(DOCUMENT.getOrDefault(promise, ""))) {
                Checks.due("a test of promise " + promise + ": " + sentence, isTested(promise, sentence), 1);
            }
        }
        for (String sentence : sentencesOfTerms()) {
            Checks.due("a test of the terms: " + sentence, isTested(Sentence.TERMS, sentence), 1);
        }
        Checks.end();
    }

    private static void readDocument() throws Exception {
        String all = Files.readString(Path.of("../shared/DOC.md"));
        for (String part : all.split("\n## ")) {
            String head = part.substring(0, part.indexOf('\n'));
            String body = part.substring(part.indexOf('\n'));
            if (head.startsWith("Promise ")) {
                int promise = Integer.parseInt(head.substring(8, head.indexOf(':')));
                DOCUMENT.put(promise, body.substring(body.indexOf("`: ") + 3).strip());
            } else if (head.equals("Terms") || head.equals("What it is")) {
                DOCUMENT.merge(Sentence.TERMS, body, String::concat);
                terms = head.equals("Terms") ? body : terms;
            }
        }
        Checks.due("promises of the document, and the terms", DOCUMENT.size(), PROMISES + 1);
    }

    /** A full stop behind a letter, a figure, a bracket ends a sentence; those of "0 .. 6" do not. */
    private static List<String> sentencesOf(String promise) {
        List<String> sentences = new ArrayList<>();
        for (String sentence : promise.split("(?<=[^. ]\\.)\\s+|(?<=[^. ]\\.\\))\\s+")) {
            sentences.add(sentence);
        }
        return sentences;
    }

    /** The terms' paragraphs without their marks; what only tells where the calls' headings stand promises nothing. */
    private static List<String> sentencesOfTerms() {
        List<String> sentences = new ArrayList<>();
        for (String paragraph : terms.split("\n\\s*\n|```(text)?\n|\n(?=  )")) {
            String words = paragraph.strip().replaceFirst("^======== (ANSWERS\\.|[1-3]) ", "");
            if (!words.isEmpty() && !words.startsWith("Ahead of the calls")) {
                sentences.addAll(sentencesOf(words));
            }
        }
        Checks.due("sentences of the terms, some at least", sentences.size() > 15 ? 1 : 0, 1);
        return sentences;
    }

    private static long isTested(int promise, String sentence) {
        return TESTED.contains(promise + " " + sentence) ? 1 : 0;
    }

    private static void runAll(Class<?> tests) throws Exception {
        Checks.test(tests.getName());
        Map<String, Method> byName = new TreeMap<>();
        for (Method m : tests.getDeclaredMethods()) {
            if (m.isAnnotationPresent(Sentence.class)) {
                byName.put(m.getName(), m);
            } else {
                Checks.due(m + " is a test without a sentence", Modifier.isPrivate(m.getModifiers()) ? 0 : 1, 0);
            }
        }
        for (Method m : byName.values()) {
            run(m);
        }
    }

    private static void run(Method m) throws Exception {
        Sentence sentence = m.getAnnotation(Sentence.class);
        Checks.test(m.getName());
        String due = sentence.of() == Sentence.TERMS ? "terms_" : String.format("promise%02d_", sentence.of());
        Checks.due("the name of a test begins with " + due, m.getName().startsWith(due) ? 1 : 0, 1);
        boolean stands = DOCUMENT.getOrDefault(sentence.of(), "").contains(sentence.says());
        Checks.due("the document says: " + sentence.says(), stands ? 1 : 0, 1);
        boolean isFirst = TESTED.add(sentence.of() + " " + sentence.says());
        Checks.due("a test of the sentence stood already", isFirst ? 0 : 1, 0);
        m.invoke(null);
    }
}
