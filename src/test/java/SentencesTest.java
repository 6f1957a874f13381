import java.io.IOException;
import java.lang.reflect.Method;
import java.nio.file.Files;
import java.nio.file.Path;
import java.util.ArrayList;
import java.util.HashSet;
import java.util.List;
import java.util.Set;
import java.util.TreeSet;
import java.util.regex.Matcher;
import java.util.regex.Pattern;

/** Every sentence of the document that names a boundary case has a test of its own. */
final class SentencesTest {
    /** Heads of paragraphs, and sentences that name no case that a call could show. */
    private static final Set<String> WITHOUT_A_CASE = Set.of(
            "A waterworks: tanks with water and impurities are connected by pipes with valves, filters and leaks; water"
            + " flows from fuller tanks to less full ones, filters hold impurities back until they are clogged, and"
            + " leaks spill water.",
            "The class finds connected tanks, pipes on which a connection depends, the widest connection and the"
            + " cleanest way through the filters in two ways each, keeps accounts of water, and offers rankings,"
            + " fingerprints, a small command language, undo and a snapshot.",
            "It is not thread-safe.", "Tanks and impurities.", "Pipes.", "One minute.", "Connections.", "Cleaning.",
            "Still water.", "Fingerprints.", "Scripts.", "Changes.", "Exceptions.");

    /** Of what a promise says, these words tell of a boundary. */
    private static final Pattern BOUNDARY = Pattern.compile(
            "^Throws|\\d|\\b(if|without|empty|still|same|initially|also|new|latest|earlier|kept|nothing|in these|far|"
            + "ascending|found by|filled|tells|converted)\\b");

    private SentencesTest() {
    }

    static String document() throws IOException {
        return Files.readString(Path.of(System.getProperty("shared", "../shared"), "DOC.md"));
    }

    private static String key(int promise, String sentence) {
        return promise + ": " + sentence;
    }

    /** What stands before the promises, each sentence and each line of the scripts' form. */
    private static Set<String> sentencesOfTheTerms() throws IOException {
        String document = document();
        Set<String> sentences = new HashSet<>();
        for (String head : new String[] {"What it is", "Terms"}) {
            int start = document.indexOf("\n## " + head + "\n") + head.length() + 5;
            for (String paragraph : document.substring(start, document.indexOf("\n## ", start)).split("\n\\s*\n")) {
                if (!paragraph.isBlank() && !paragraph.startsWith("Ahead of the calls")) {
                    addSentences(sentences, 0, paragraph);
                }
            }
        }
        return sentences;
    }

    private static void addSentences(Set<String> sentences, int promise, String paragraph) {
        if (paragraph.startsWith("```")) {
            for (String line : paragraph.split("\n")) {
                if (!line.startsWith("```")) {
                    sentences.add(key(promise, line.strip()));
                }
            }
            return;
        }
        for (String sentence : paragraph.strip().replaceAll("\\s+", " ").split("(?<=\\.) (?=[A-Z])")) {
            sentences.add(key(promise, sentence));
        }
    }

    private static Set<String> sentencesOfThePromises() throws IOException {
        Set<String> sentences = new HashSet<>();
        Matcher section = Pattern.compile("## Promise (\\d+): .*\n((?s:.*?))(?=\n## )").matcher(document());
        while (section.find()) {
            int promise = Integer.parseInt(section.group(1));
            for (String paragraph : section.group(2).split("\n(?:\\s*\n|(?=- `))")) {
                addSentences(sentences, promise, paragraph.strip().replaceFirst("^(`[^`]*`: |- )", ""));
            }
        }
        return sentences;
    }

    private static Set<String> testedSentences() {
        Set<String> tested = new HashSet<>();
        for (Class<?> tests : AllTests.CLASSES) {
            for (Method method : tests.getDeclaredMethods()) {
                Sentence sentence = method.getAnnotation(Sentence.class);
                if (sentence != null) {
                    tested.add(key(sentence.promise(), sentence.value()));
                    String name = sentence.promise() == 0 ? "terms" : "promise" + sentence.promise();
                    boolean isNamed = method.getName().matches(name + "(\\D.*)?");
                    Check.due(method.getName() + " bears the number of its promise", true, isNamed);
                }
            }
        }
        return tested;
    }

    static void wholeDocument() throws IOException {
        Set<String> terms = sentencesOfTheTerms();
        Set<String> promises = sentencesOfThePromises();
        Check.due("enough of the document was read", true, terms.size() > 50 && promises.size() > 200);
        Set<String> tested = testedSentences();
        List<String> missing = new ArrayList<>();
        for (String sentence : terms) {
            if (!tested.contains(sentence) && !WITHOUT_A_CASE.contains(sentence.substring(3))) {
                missing.add(sentence);
            }
        }
        for (String sentence : promises) {
            String words = sentence.substring(sentence.indexOf(' ') + 1);
            if (!tested.contains(sentence) && BOUNDARY.matcher(words).find()) {
                missing.add(sentence);
            }
        }
        for (String sentence : new TreeSet<>(missing)) {
            System.out.println("  no test: " + sentence);
        }
        Check.due("sentences without a test", 0, missing.size());
        tested.removeAll(terms);
        tested.removeAll(promises);
        Check.due("tests of sentences that the document does not have", Set.of(), tested);
    }
}
