import java.io.IOException;
import java.lang.reflect.InvocationTargetException;
import java.lang.reflect.Method;
import java.nio.file.Files;
import java.nio.file.Path;
import java.util.ArrayList;
import java.util.Arrays;
import java.util.Comparator;
import java.util.List;

/**
 * Runs the tests that quote the document: of all sentences that name a boundary case, and of the
 * others of "What it is" and "Terms". Compares what they quote with the document: it stands there,
 * and each word of those two parts and of the promises stands in what some test quotes.
 */
public final class EdgesTest extends Cases {
    private static final Path DOCUMENT = Path.of("../shared/DOC.md");
    private static final Class<?>[] PARTS = {
        BuildEdges.class, RunEdges.class, SearchEdges.class, TermsCases.class};
    private static final int PROMISES = 27;
    private static final char QUOTED = '\0';

    // Of promise 27: THE THEOREM is true, so no calls lead to it. Of THREADS that WAIT for one another
    // each TYPE that is waited for NEEDS the next one, round to itself.
    private static final String NEVER = "else 0";

    // Headings, fences and the interface's own headings: no call can show them.
    private static final String NOT_SHOWN = "(?m)^(#|```).*$|Ahead of the calls [^-]*---- [a-z, ]*";

    public static void main(String[] args) throws IOException, IllegalAccessException {
        List<Method> tests = tests();
        for (Method test : tests) run(test);
        if (Files.exists(DOCUMENT)) compareWithDocument(tests, Files.readString(DOCUMENT));
        else System.out.println("no document at " + DOCUMENT + ": what the tests quote was not compared with it");
        endWith(tests.size() + " tests of sentences of the document hold, by " + compared() + " answers");
    }

    private static List<Method> tests() {
        List<Method> tests = new ArrayList<>();
        for (Class<?> part : PARTS) {
            for (Method m : part.getDeclaredMethods()) {
                if (m.isAnnotationPresent(Edge.class)) tests.add(m);
            }
        }
        // The Java machine tells methods in no order of its own.
        tests.sort(Comparator.comparingInt(EdgesTest::promiseOf).thenComparing(Method::getName));
        return tests;
    }

    private static int promiseOf(Method test) {
        return test.getAnnotation(Edge.class).promise();
    }

    private static String wordsOf(Method test) {
        return test.getAnnotation(Edge.class).says();
    }

    private static void run(Method test) throws IllegalAccessException {
        about("promise " + promiseOf(test) + ", \"" + wordsOf(test) + "\", " + test.getName());
        int before = compared();
        try {
            test.invoke(null);
        } catch (InvocationTargetException e) {
            fail("a call threw " + e.getCause());
        }
        if (compared() == before) fail("it compares nothing");
    }

    private static void compareWithDocument(List<Method> tests, String document) {
        String terms = between(document, "## What it is", "## The public face")
            + between(document, "## Terms", "## Promise 1:");
        List<String> quotedOfTerms = new ArrayList<>();
        for (int promise = 1; promise <= PROMISES; promise++) {
            about("promise " + promise);
            String end = promise < PROMISES ? "## Promise " + (promise + 1) + ":" : "## Not promised";
            String own = between(document, "## Promise " + promise + ":", end);
            List<String> quoted = new ArrayList<>();
            for (Method test : tests) {
                if (promiseOf(test) != promise) continue;
                String words = wordsOf(test);
                if (own.contains(words)) quoted.add(words);
                else if (terms.contains(words)) quotedOfTerms.add(words);
                else fail("the document does not say: " + words);
            }
            checkAllQuoted(own.substring(own.lastIndexOf("`: ") + 3).replace(NEVER, ""), quoted);
        }
        about("ahead of promise 1");
        checkAllQuoted(terms.replaceAll(NOT_SHOWN, ""), quotedOfTerms);
    }

    private static String between(String text, String from, String to) {
        int start = text.indexOf(from);
        int end = text.indexOf(to, Math.max(0, start));
        if (start < 0 || end < 0) {
            fail("the document has no part from " + from + " to " + to);
            return "";
        }
        return text.substring(start, end);
    }

    private static void checkAllQuoted(String text, List<String> quoted) {
        char[] left = text.toCharArray();
        for (String words : quoted) {
            for (int at = text.indexOf(words); at >= 0; at = text.indexOf(words, at + 1)) {
                Arrays.fill(left, at, at + words.length(), QUOTED);
            }
        }
        for (String part : new String(left).split(QUOTED + "+")) {
            if (part.chars().anyMatch(Character::isLetterOrDigit)) fail("no test quotes: " + part.trim());
        }
    }
}
