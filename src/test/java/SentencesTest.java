import java.io.IOException;
import java.lang.reflect.Method;
import java.nio.file.Files;
import java.nio.file.Path;

/**
 * The words that the tests of the boundary cases name stand in the document, and no words of Promises 1 to 37, of Terms or of
 * sections 2 and 3 are without a test that names them.
 */
public final class SentencesTest {
    private static final int PROMISES = 37;
    private static final Class<?>[] TESTS = {EdgesTableTest.class, EdgesTextTest.class, EdgesToldTest.class,
        EdgesCountsTest.class, EdgesSeenTest.class, EdgesTapesTest.class};
    private static final Due due = new Due("SentencesTest");

    public static void main(String[] args) throws IOException {
        Path document = Path.of(System.getProperty("project.root", "."), "..", "shared", "DOC.md");
        if (!Files.exists(document)) {
            System.out.println("SentencesTest: no " + document + " here, so nothing is held against it");
            return;
        }
        String all = Files.readString(document).replaceAll("```[a-z]*", " ").replaceAll("\\s+", " ");
        int first = all.indexOf("## Promise 1:");
        String head = all.substring(0, first);
        boolean[] named = new boolean[head.length()];
        for (int promise = 1; promise <= PROMISES; promise++) {
            String section = sectionOf(all, promise);
            boolean[] namedHere = new boolean[section.length()];
            markAll(promise, section, namedHere, head, named);
            isAllNamed("promise " + promise, section, namedHere, 0, section.length());
        }
        isAllNamed("the terms", head, named, head.indexOf("## Terms ") + "## Terms ".length(),
            head.indexOf("Ahead of the calls `table`"));
        due.close();
    }

    private static String sectionOf(String all, int promise) {
        int from = all.indexOf('`', all.indexOf("## Promise " + promise + ":"));
        int to = all.indexOf("## ", from);
        return all.substring(from, to < 0 ? all.length() : to);
    }

    private static void markAll(int promise, String section, boolean[] here, String head, boolean[] inHead) {
        int tests = 0;
        for (Class<?> of : TESTS) {
            for (Method m : Edges.testsOf(of)) {
                Says says = m.getAnnotation(Says.class);
                if (says.promise() != promise) {
                    continue;
                }
                tests++;
                for (String words : says.words()) {
                    boolean found = mark(words, section, here) || mark(words, head, inHead);
                    due.holds("the document has the words of " + m.getName() + ": " + words, found);
                }
            }
        }
        due.holds("promise " + promise + " has a test of its boundary cases", tests > 0);
    }

    private static boolean mark(String words, String text, boolean[] named) {
        int at = text.indexOf(words);
        boolean found = at >= 0;
        while (at >= 0) {
            for (int k = 0; k < words.length(); k++) {
                named[at + k] = true;
            }
            at = text.indexOf(words, at + 1);
        }
        return found;
    }

    private static void isAllNamed(String where, String text, boolean[] named, int from, int to) {
        StringBuilder left = new StringBuilder();
        for (int k = from; k < to; k++) {
            if (!named[k] && Character.isLetterOrDigit(text.charAt(k))) {
                left.append(left.length() == 0 || named[k - 1] ? " .. " : "").append(text.charAt(k));
            } else if (!named[k] && left.length() > 0) {
                left.append(text.charAt(k));
            }
        }
        due.holds("all words of " + where + " are named by a test; these are not: " + left, left.toString().isBlank());
    }
}
