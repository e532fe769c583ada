import java.io.IOException;
import java.lang.reflect.InvocationTargetException;
import java.lang.reflect.Method;
import java.nio.file.Files;
import java.nio.file.Path;
import java.util.ArrayList;
import java.util.Arrays;
import java.util.Comparator;
import java.util.LinkedHashMap;
import java.util.List;
import java.util.Map;
import java.util.Set;
import java.util.TreeSet;

/**
 * A test of its own for each sentence of the document that names a boundary case. Each test bears the sentence, or the
 * part that names the case; it must stand in the document, and each sentence of the document must have a test, but for
 * those that name no such case.
 */
public final class SentenceTest {
    private static final Path DOCUMENT = Path.of("../shared/DOC.md");
    private static final Class<?>[] TESTS = {NodeSentences.class, RoundSentences.class, CrashSentences.class,
        InputSentences.class, CallSentences.class, QuestionSentences.class};
    /** What they say is said with its edges in another sentence under the same heading. */
    private static final Set<String> WITHOUT_A_CASE = Set.of(
        "Nodes and disks.", "Ballots and rounds.", "Crashes.", "Holders.", "Input text.", "Exceptions.",
        "The constants:", "The constructor and the methods follow, a promise each: the signature, then what it does.",
        "Turns barriers on or off.", "- `on`: true for on", "Lets a node prepare.", "Lets a node ask to accept.",
        "Makes a barrier.", "Lets a node crash.", "Wipes the disk of a node.", "Restarts a node.",
        "Lets a node try to join again.", "Appends a character to the input buffer.",
        "Finds the first syntax error of the buffer.", "Returns a number.", "Returns the number.",
        "Returns a property of a node.", "Returns the property.", "Returns what a node has accepted in a slot.",
        "Returns that number.", "Returns a part of a waiting write.", "Returns the part.",
        "Returns a property of a slot.", "Returns the value of the open round of a node for a slot.",
        "Returns how many nodes would hold a slot if a node crashed.",
        "Returns how many of its last waiting writes a node could lose without harm.",
        "Returns how few nodes must lose all of their waiting writes so that a slot is not protected any more.",
        "Returns the share of messages that were not refused.", "Returns how much of the decided slots is on the disks.",
        "Computes a hash of the whole state.", "Returns the hash.", "- `node`: number of the node",
        "- `slot`: number of the slot", "- `code`: the character code");

    private final Checks checks = new Checks();
    private final Map<String, List<String>> document = new LinkedHashMap<>();
    private final Map<String, Set<String>> tested = new LinkedHashMap<>();
    private int tests = 0;

    public static void main(String[] args) throws IOException {
        SentenceTest all = new SentenceTest();
        all.readDocument();
        for (Class<?> c : TESTS) {
            all.runTests(c);
        }
        all.checkThatAllAreTested();
        System.out.println(all.tests + " tests of sentences");
        all.checks.end();
    }

    private void readDocument() throws IOException {
        String heading = "";
        for (String line : Files.readAllLines(DOCUMENT)) {
            if (line.startsWith("#")) {
                heading = line.replaceAll("^#+ ", "").replaceAll(":.*", "");
                document.put(heading, new ArrayList<>());
                tested.put(heading, new TreeSet<>());
            } else if (!line.isBlank() && !line.startsWith("----") && !line.matches("`.*\\).*`")) {
                document.get(heading).addAll(List.of(line.strip().split("(?<=[.)])\\s+(?=[A-Z(])")));
            }
        }
    }

    private void runTests(Class<?> c) {
        Method[] methods = c.getDeclaredMethods();
        Arrays.sort(methods, Comparator.comparing(Method::getName));
        for (Method m : methods) {
            Says says = m.getAnnotation(Says.class);
            if (says != null) {
                checks.begin(c.getName() + "." + m.getName());
                findSentence(says);
                runTest(m);
                tests++;
            }
        }
    }

    private void findSentence(Says says) {
        int found = 0;
        for (String sentence : document.getOrDefault(says.in(), List.of())) {
            if (sentence.contains(says.text())) {
                tested.get(says.in()).add(sentence);
                found++;
            }
        }
        checks.isTrue("under " + says.in() + " stands: " + says.text(), found > 0);
    }

    private void runTest(Method m) {
        int before = checks.made();
        try {
            m.invoke(null, checks);
        } catch (InvocationTargetException e) {
            checks.isTrue("the test ends without " + e.getCause(), false);
        } catch (IllegalAccessException e) {
            checks.isTrue("the test can be called", false);
        }
        checks.isTrue("the test checks something", checks.made() > before);
    }

    private void checkThatAllAreTested() {
        checks.begin("the document");
        checks.isTrue("has a description and 26 promises", document.containsKey("Description")
            && document.containsKey("Promise 1") && document.containsKey("Promise 26"));
        for (Map.Entry<String, List<String>> part : document.entrySet()) {
            if (!part.getKey().equals("Description") && !part.getKey().startsWith("Promise ")) {
                continue;
            }
            for (String sentence : part.getValue()) {
                checks.isTrue("under " + part.getKey() + " has a test for: " + sentence,
                    tested.get(part.getKey()).contains(sentence) || WITHOUT_A_CASE.contains(sentence));
            }
        }
    }
}
