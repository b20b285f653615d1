import java.io.IOException;
import java.lang.reflect.InvocationTargetException;
import java.lang.reflect.Method;
import java.nio.file.Files;
import java.nio.file.Path;
import java.util.Map;
import java.util.TreeMap;

/**
 * Tests of single sentences: a method p07.. of a test class tests one of promise 7. They are found by their
 * names, so that none is forgotten, and the sentences that they quote are looked up in the document.
 */
final class Edges {
    private static final Path DOCUMENT = Path.of("..", "shared", "DOC.md");

    private final Class<?> tests;
    private final Check check;
    private final String document;

    Edges(Class<?> tests) {
        this.tests = tests;
        check = new Check(tests.getSimpleName());
        document = readDocument();
    }

    private static String readDocument() {
        try {
            return Files.exists(DOCUMENT) ? plain(Files.readString(DOCUMENT)) : "";
        } catch (IOException wrong) {
            throw new IllegalStateException("the document is there, but can't be read", wrong);
        }
    }

    private static String plain(String text) {
        return text.replaceAll("\\s+", " ");
    }

    Check check() {
        return check;
    }

    /** A new object, to test a sentence of the document that belongs to a promise. */
    Run run(int promise, String sentence) {
        if (!document.isEmpty()) {
            check.isTrue("promise " + promise + " or a term says \"" + sentence + "\"", isSaid(promise, sentence));
        }
        return new Run(check, promise + ": \"" + sentence + "\"");
    }

    /** Under the promise's own heading, or ahead of the first one's. */
    private boolean isSaid(int promise, String sentence) {
        int terms = document.indexOf("## Promise 1: ");
        int from = document.indexOf("## Promise " + promise + ": ");
        int to = document.indexOf("## ", from + 1);
        return from >= 0 && to > from
            && (document.substring(0, terms).contains(sentence) || document.substring(from, to).contains(sentence));
    }

    /** Runs all tests of the class, of which each of these promises must have one. */
    void runAll(int firstPromise, int lastPromise) {
        Map<String, Method> found = new TreeMap<>();
        for (Method method : tests.getDeclaredMethods()) {
            if (method.getName().matches("p\\d\\d[A-Z]\\w*")) {
                method.setAccessible(true);
                found.put(method.getName(), method);
            }
        }
        for (int promise = firstPromise; promise <= lastPromise; promise++) {
            String start = String.format("p%02d", promise);
            check.isTrue("a test of promise " + promise, found.keySet().stream().anyMatch(n -> n.startsWith(start)));
        }
        for (Method method : found.values()) {
            try {
                method.invoke(null);
            } catch (IllegalAccessException | InvocationTargetException wrong) {
                throw new IllegalStateException(method.getName(), wrong);
            }
        }
        System.out.println(tests.getSimpleName() + ": " + found.size() + " sentences"
            + (document.isEmpty() ? ", not looked up: " + DOCUMENT + " is not there" : ""));
        check.end();
    }
}
