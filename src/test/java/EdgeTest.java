import java.lang.reflect.InvocationTargetException;
import java.lang.reflect.Method;
import java.nio.file.Files;
import java.nio.file.Path;
import java.util.ArrayList;
import java.util.Arrays;
import java.util.Comparator;
import java.util.List;
import java.util.TreeMap;
import java.util.TreeSet;

/**
 * Runs the tests of the document's sentences, and looks whether each sentence has one: ordinary
 * inputs, the edge that the sentence names, one step to either side of it, and wrong inputs.
 */
public final class EdgeTest {
    private static final Class<?>[] TESTS = {
        TermEdges.class, TickEdges.class, ReasonEdges.class, ChangeEdges.class, NumberEdges.class, WayEdges.class,
        DistrictEdges.class, TextEdges.class, AccountEdges.class,
    };

    /** By the promises, 0 for "Terms", the sentences that have no test yet. */
    private static final TreeMap<Integer, List<String>> ALL = new TreeMap<>();
    private static final TreeSet<String> TESTED = new TreeSet<>();

    public static void main(String[] args) throws Exception {
        Check.in("sentences");
        readDocument();
        Check.is(37, ALL.size());
        for (Class<?> tests : TESTS) {
            Method[] methods = tests.getDeclaredMethods();
            Arrays.sort(methods, Comparator.comparing(Method::getName));
            for (Method method : methods) {
                Sentence sentence = method.getAnnotation(Sentence.class);
                if (sentence != null) {
                    run(method, sentence);
                }
            }
        }
        Check.in("sentences");
        lookForSentencesWithoutTests();
        Check.end();
    }

    private static void run(Method method, Sentence sentence) throws Exception {
        Check.in((sentence.of() == 0 ? "Terms" : "promise " + sentence.of()) + " " + method.getName());
        for (String beginning : sentence.value()) {
            Check.is(1, findSentence(sentence.of(), beginning));
        }
        try {
            method.invoke(null);
        } catch (InvocationTargetException thrown) {
            thrown.getCause().printStackTrace(System.out);
            Check.fail("threw " + thrown.getCause());
        }
    }

    private static int findSentence(int promise, String beginning) {
        int found = 0;
        for (String sentence : ALL.getOrDefault(promise, List.of())) {
            if (sentence.startsWith(beginning)) {
                found++;
                TESTED.add(promise + " " + sentence);
            }
        }
        return found;
    }

    private static void lookForSentencesWithoutTests() {
        for (int promise : ALL.keySet()) {
            for (String sentence : ALL.get(promise)) {
                if (!TESTED.contains(promise + " " + sentence) && !isPlain(sentence)) {
                    Check.fail("no test of its own has, under " + promise + ": " + sentence);
                }
            }
        }
    }

    /** The catchwords of the terms, and what is said of an argument without a number. */
    private static boolean isPlain(String sentence) {
        return sentence.matches("[A-Z][a-z]+( of canals)?\\.") || sentence.matches("- `[a-zA-Z]+`: [^0-9]*");
    }

    private static void readDocument() throws Exception {
        int promise = -1;
        StringBuilder paragraph = new StringBuilder();
        for (String line : Files.readAllLines(Path.of("../shared/DOC.md"))) {
            if (line.isBlank() || line.startsWith("- ") || line.startsWith("## ")) {
                addSentences(promise, paragraph.toString());
                paragraph.setLength(0);
            }
            if (line.startsWith("## ")) {
                promise = line.equals("## Terms") ? 0
                        : line.startsWith("## Promise ") ? Integer.parseInt(line.split("[ :]")[2]) : -1;
            } else if (!line.isBlank()) {
                paragraph.append(paragraph.length() > 0 ? " " : "").append(line.strip());
            }
        }
        addSentences(promise, paragraph.toString());
    }

    /** What a promise does is told behind its head, which is no sentence. */
    private static void addSentences(int promise, String paragraph) {
        if (promise >= 0 && !paragraph.isEmpty()) {
            String text = paragraph.startsWith("`") ? paragraph.replaceFirst("^`[^`]*`: ", "") : paragraph;
            List<String> sentences = ALL.computeIfAbsent(promise, none -> new ArrayList<>());
            sentences.addAll(List.of(text.split("(?<=\\.) +(?=[A-Z])")));
        }
    }
}
